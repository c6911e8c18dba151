section
theorem lw_good : lw_g.all goodWord = true := List.all_eq_true.mpr (fun _ h => (List.mem_filter.mp h).2)
theorem mem_g {w : Cond} (h : w ∈ lw_tbl) (hg : goodWord w = true) : w ∈ lw_g := List.mem_filter.mpr ⟨h, hg⟩
theorem sub_g {w : Cond} (h : w ∈ lw_g) : w ∈ lw_tbl := (List.mem_filter.mp h).1
def rem32 (x y : Int32) : Int32 := x - x / y * y
def rem64 (x y : Int64) : Int64 := x - x / y * y
def imin (x y : Int32) : Int32 := if y < x then y else x
def imax (x y : Int32) : Int32 := if x < y then y else x
def lmin (x y : Int64) : Int64 := if y < x then y else x
def lmax (x y : Int64) : Int64 := if y < x then x else y
abbrev oob (i : Int32) (n : Nat) : Prop := i < 0 ∨ n ≤ i.toNatClampNeg
/-- a name for a value -/
def bnd {α β : Type} (v : α) (k : α → β) : β := k v
section ROWS
variable {p : Program} {l : Launch} {e : Env} {R : Room} {s : State} {m : MethodId} {args : Array Value} {below : List Frame} {meth : Method} {c : Code} {G : Lay} {D : va_G} {cy : Nat → ClassId} {ad : Nat → Nat} {nL d : Nat} {ρ : Type} {Qf : ρ → Array Value → State → Outcome → State → Prop} {cc : ByteArray} {own : String} {rt : Option FieldType}
variable {pc : Nat} {lv : List (Nat × Value)} {st : List Value} {M : Mem} {o o1 o2 : Option ρ}
theorem b_iconst (hO : OKc p R s m args meth c G D cy ad cc own nL d rt) {n : Int} {v : Int32} (hdg : decode cc pc = .ok (.iconst n, 1)) (hv : Int32.ofInt n = v) (k : BL p l e R s m args below meth c G D cy ad nL Qf (pc + 1) lv (.int v :: st) M o) : BL p l e R s m args below meth c G D cy ad nL Qf pc lv st M o := fun r hr H locs ls hW hS hl => lv_iconst hO.1 hO.2.1 hdg hv (k r hr H locs ls hW hS hl)
theorem b_bipush (hO : OKc p R s m args meth c G D cy ad cc own nL d rt) {n : Int} {v : Int32} (hdg : decode cc pc = .ok (.bipush n, 2)) (hv : (Int8.ofInt n).toInt32 = v) (k : BL p l e R s m args below meth c G D cy ad nL Qf (pc + 2) lv (.int v :: st) M o) : BL p l e R s m args below meth c G D cy ad nL Qf pc lv st M o := fun r hr H locs ls hW hS hl => lv_bipush hO.1 hO.2.1 hdg hv (k r hr H locs ls hW hS hl)
theorem b_sipush (hO : OKc p R s m args meth c G D cy ad cc own nL d rt) {n : Int} {v : Int32} (hdg : decode cc pc = .ok (.sipush n, 3)) (hv : (Int16.ofInt n).toInt32 = v) (k : BL p l e R s m args below meth c G D cy ad nL Qf (pc + 3) lv (.int v :: st) M o) : BL p l e R s m args below meth c G D cy ad nL Qf pc lv st M o := fun r hr H locs ls hW hS hl => lv_sipush hO.1 hO.2.1 hdg hv (k r hr H locs ls hW hS hl)
theorem b_lconst (hO : OKc p R s m args meth c G D cy ad cc own nL d rt) {n : Fin 2} {v : Int64} (hdg : decode cc pc = .ok (.lconst n, 1)) (hv : Int64.ofNat (n : Nat) = v) (k : BL p l e R s m args below meth c G D cy ad nL Qf (pc + 1) lv (.long v :: st) M o) : BL p l e R s m args below meth c G D cy ad nL Qf pc lv st M o := fun r hr H locs ls hW hS hl => lv_lconst hO.1 hO.2.1 hdg hv (k r hr H locs ls hW hS hl)
theorem b_iload_n (hO : OKc p R s m args meth c G D cy ad cc own nL d rt) {k : Fin 4} {i : Nat} {x : Int32} (hdg : decode cc pc = .ok (.iload_n k, 1)) (j : Nat) (hj : lv[j]? = some (i, .int x)) (hi : (k : Nat) = i) (K : BL p l e R s m args below meth c G D cy ad nL Qf (pc + 1) lv (.int x :: st) M o) : BL p l e R s m args below meth c G D cy ad nL Qf pc lv st M o := fun r hr H locs ls hW hS hl => lv_iload_n hO.1 hO.2.1 hdg hi (lv_at hl j hj) (K r hr H locs ls hW hS hl)
theorem b_iload (hO : OKc p R s m args meth c G D cy ad cc own nL d rt) {i : Nat} {x : Int32} (hdg : decode cc pc = .ok (.iload i, 2)) (j : Nat) (hj : lv[j]? = some (i, .int x)) (K : BL p l e R s m args below meth c G D cy ad nL Qf (pc + 2) lv (.int x :: st) M o) : BL p l e R s m args below meth c G D cy ad nL Qf pc lv st M o := fun r hr H locs ls hW hS hl => lv_iload hO.1 hO.2.1 hdg (lv_at hl j hj) (K r hr H locs ls hW hS hl)
theorem b_istore_n (hO : OKc p R s m args meth c G D cy ad cc own nL d rt) {k : Fin 4} {i : Nat} {x : Int32} {lv' : List (Nat × Value)} (hdg : decode cc pc = .ok (.istore_n k, 1)) (hi : (k : Nat) = i) (hn : i < nL) (hlv : (i, Value.int x) :: lv.filter (fun q => !(q.1 == i) && !(q.1 + 1 == i && q.2.category == 2)) = lv') (K : BL p l e R s m args below meth c G D cy ad nL Qf (pc + 1) lv' st M o) : BL p l e R s m args below meth c G D cy ad nL Qf pc lv (.int x :: st) M o := fun r hr H locs ls hW hS hl => lv_istore_n hO.1 hO.2.1 hdg hi hl hn hlv (fun ls' hl' => K r hr H locs ls' hW hS hl')
theorem b_istore (hO : OKc p R s m args meth c G D cy ad cc own nL d rt) {i : Nat} {x : Int32} {lv' : List (Nat × Value)} (hdg : decode cc pc = .ok (.istore i, 2)) (hn : i < nL) (hlv : (i, Value.int x) :: lv.filter (fun q => !(q.1 == i) && !(q.1 + 1 == i && q.2.category == 2)) = lv') (K : BL p l e R s m args below meth c G D cy ad nL Qf (pc + 2) lv' st M o) : BL p l e R s m args below meth c G D cy ad nL Qf pc lv (.int x :: st) M o := fun r hr H locs ls hW hS hl => lv_istore hO.1 hO.2.1 hdg hl hn hlv (fun ls' hl' => K r hr H locs ls' hW hS hl')
theorem b_lload_n (hO : OKc p R s m args meth c G D cy ad cc own nL d rt) {k : Fin 4} {i : Nat} {x : Int64} (hdg : decode cc pc = .ok (.lload_n k, 1)) (j : Nat) (hj : lv[j]? = some (i, .long x)) (hi : (k : Nat) = i) (K : BL p l e R s m args below meth c G D cy ad nL Qf (pc + 1) lv (.long x :: st) M o) : BL p l e R s m args below meth c G D cy ad nL Qf pc lv st M o := fun r hr H locs ls hW hS hl => lv_lload_n hO.1 hO.2.1 hdg hi (lv_at hl j hj) (K r hr H locs ls hW hS hl)
theorem b_lload (hO : OKc p R s m args meth c G D cy ad cc own nL d rt) {i : Nat} {x : Int64} (hdg : decode cc pc = .ok (.lload i, 2)) (j : Nat) (hj : lv[j]? = some (i, .long x)) (K : BL p l e R s m args below meth c G D cy ad nL Qf (pc + 2) lv (.long x :: st) M o) : BL p l e R s m args below meth c G D cy ad nL Qf pc lv st M o := fun r hr H locs ls hW hS hl => lv_lload hO.1 hO.2.1 hdg (lv_at hl j hj) (K r hr H locs ls hW hS hl)
theorem b_lstore_n (hO : OKc p R s m args meth c G D cy ad cc own nL d rt) {k : Fin 4} {i : Nat} {x : Int64} {lv' : List (Nat × Value)} (hdg : decode cc pc = .ok (.lstore_n k, 1)) (hi : (k : Nat) = i) (hn : i + 1 < nL) (hlv : (i, Value.long x) :: lv.filter (fun q => !(q.1 == i) && (!(q.1 == i + 1) && !(q.1 + 1 == i && q.2.category == 2))) = lv') (K : BL p l e R s m args below meth c G D cy ad nL Qf (pc + 1) lv' st M o) : BL p l e R s m args below meth c G D cy ad nL Qf pc lv (.long x :: st) M o := fun r hr H locs ls hW hS hl => lv_lstore_n hO.1 hO.2.1 hdg hi hl hn hlv (fun ls' hl' => K r hr H locs ls' hW hS hl')
theorem b_lstore (hO : OKc p R s m args meth c G D cy ad cc own nL d rt) {i : Nat} {x : Int64} {lv' : List (Nat × Value)} (hdg : decode cc pc = .ok (.lstore i, 2)) (hn : i + 1 < nL) (hlv : (i, Value.long x) :: lv.filter (fun q => !(q.1 == i) && (!(q.1 == i + 1) && !(q.1 + 1 == i && q.2.category == 2))) = lv') (K : BL p l e R s m args below meth c G D cy ad nL Qf (pc + 2) lv' st M o) : BL p l e R s m args below meth c G D cy ad nL Qf pc lv (.long x :: st) M o := fun r hr H locs ls hW hS hl => lv_lstore hO.1 hO.2.1 hdg hl hn hlv (fun ls' hl' => K r hr H locs ls' hW hS hl')
theorem b_aload_n (hO : OKc p R s m args meth c G D cy ad cc own nL d rt) {k : Fin 4} {i : Nat} {x : Nat} (hdg : decode cc pc = .ok (.aload_n k, 1)) (j : Nat) (hj : lv[j]? = some (i, .ref x)) (hi : (k : Nat) = i) (K : BL p l e R s m args below meth c G D cy ad nL Qf (pc + 1) lv (.ref x :: st) M o) : BL p l e R s m args below meth c G D cy ad nL Qf pc lv st M o := fun r hr H locs ls hW hS hl => lv_aload_n hO.1 hO.2.1 hdg hi (lv_at hl j hj) (K r hr H locs ls hW hS hl)
theorem b_aload (hO : OKc p R s m args meth c G D cy ad cc own nL d rt) {i : Nat} {x : Nat} (hdg : decode cc pc = .ok (.aload i, 2)) (j : Nat) (hj : lv[j]? = some (i, .ref x)) (K : BL p l e R s m args below meth c G D cy ad nL Qf (pc + 2) lv (.ref x :: st) M o) : BL p l e R s m args below meth c G D cy ad nL Qf pc lv st M o := fun r hr H locs ls hW hS hl => lv_aload hO.1 hO.2.1 hdg (lv_at hl j hj) (K r hr H locs ls hW hS hl)
theorem b_astore_n (hO : OKc p R s m args meth c G D cy ad cc own nL d rt) {k : Fin 4} {i : Nat} {x : Nat} {lv' : List (Nat × Value)} (hdg : decode cc pc = .ok (.astore_n k, 1)) (hi : (k : Nat) = i) (hn : i < nL) (hlv : (i, Value.ref x) :: lv.filter (fun q => !(q.1 == i) && !(q.1 + 1 == i && q.2.category == 2)) = lv') (K : BL p l e R s m args below meth c G D cy ad nL Qf (pc + 1) lv' st M o) : BL p l e R s m args below meth c G D cy ad nL Qf pc lv (.ref x :: st) M o := fun r hr H locs ls hW hS hl => lv_astore_n hO.1 hO.2.1 hdg hi hl hn hlv (fun ls' hl' => K r hr H locs ls' hW hS hl')
theorem b_astore (hO : OKc p R s m args meth c G D cy ad cc own nL d rt) {i : Nat} {x : Nat} {lv' : List (Nat × Value)} (hdg : decode cc pc = .ok (.astore i, 2)) (hn : i < nL) (hlv : (i, Value.ref x) :: lv.filter (fun q => !(q.1 == i) && !(q.1 + 1 == i && q.2.category == 2)) = lv') (K : BL p l e R s m args below meth c G D cy ad nL Qf (pc + 2) lv' st M o) : BL p l e R s m args below meth c G D cy ad nL Qf pc lv (.ref x :: st) M o := fun r hr H locs ls hW hS hl => lv_astore hO.1 hO.2.1 hdg hl hn hlv (fun ls' hl' => K r hr H locs ls' hW hS hl')
theorem b_iinc (hO : OKc p R s m args meth c G D cy ad cc own nL d rt) {i : Nat} {n : Int} {x v : Int32} {lv' : List (Nat × Value)} (hdg : decode cc pc = .ok (.iinc i n, 3)) (j : Nat) (hj : lv[j]? = some (i, .int x)) (hv : Int32.ofInt n = v) (hn : i < nL) (hlv : (i, Value.int (x + v)) :: lv.filter (fun q => !(q.1 == i) && !(q.1 + 1 == i && q.2.category == 2)) = lv') (K : BL p l e R s m args below meth c G D cy ad nL Qf (pc + 3) lv' st M o) : BL p l e R s m args below meth c G D cy ad nL Qf pc lv st M o := fun r hr H locs ls hW hS hl => lv_iinc hO.1 hO.2.1 hdg hl hj (by rw [hv]) hn hlv (fun ls' hl' => K r hr H locs ls' hW hS hl')
theorem b_iadd (hO : OKc p R s m args meth c G D cy ad cc own nL d rt) {x y : Int32} (hdg : decode cc pc = .ok (.iadd, 1)) (K : BL p l e R s m args below meth c G D cy ad nL Qf (pc + 1) lv (.int (x + y) :: st) M o) : BL p l e R s m args below meth c G D cy ad nL Qf pc lv (.int y :: .int x :: st) M o := fun r hr H locs ls hW hS hl => lv_iadd hO.1 hO.2.1 hdg (K r hr H locs ls hW hS hl)
theorem b_isub (hO : OKc p R s m args meth c G D cy ad cc own nL d rt) {x y : Int32} (hdg : decode cc pc = .ok (.isub, 1)) (K : BL p l e R s m args below meth c G D cy ad nL Qf (pc + 1) lv (.int (x - y) :: st) M o) : BL p l e R s m args below meth c G D cy ad nL Qf pc lv (.int y :: .int x :: st) M o := fun r hr H locs ls hW hS hl => lv_isub hO.1 hO.2.1 hdg (K r hr H locs ls hW hS hl)
theorem b_imul (hO : OKc p R s m args meth c G D cy ad cc own nL d rt) {x y : Int32} (hdg : decode cc pc = .ok (.imul, 1)) (K : BL p l e R s m args below meth c G D cy ad nL Qf (pc + 1) lv (.int (x * y) :: st) M o) : BL p l e R s m args below meth c G D cy ad nL Qf pc lv (.int y :: .int x :: st) M o := fun r hr H locs ls hW hS hl => lv_imul hO.1 hO.2.1 hdg (K r hr H locs ls hW hS hl)
theorem b_iand (hO : OKc p R s m args meth c G D cy ad cc own nL d rt) {x y : Int32} (hdg : decode cc pc = .ok (.iand, 1)) (K : BL p l e R s m args below meth c G D cy ad nL Qf (pc + 1) lv (.int (x &&& y) :: st) M o) : BL p l e R s m args below meth c G D cy ad nL Qf pc lv (.int y :: .int x :: st) M o := fun r hr H locs ls hW hS hl => lv_iand hO.1 hO.2.1 hdg (K r hr H locs ls hW hS hl)
theorem b_ior (hO : OKc p R s m args meth c G D cy ad cc own nL d rt) {x y : Int32} (hdg : decode cc pc = .ok (.ior, 1)) (K : BL p l e R s m args below meth c G D cy ad nL Qf (pc + 1) lv (.int (x ||| y) :: st) M o) : BL p l e R s m args below meth c G D cy ad nL Qf pc lv (.int y :: .int x :: st) M o := fun r hr H locs ls hW hS hl => lv_ior hO.1 hO.2.1 hdg (K r hr H locs ls hW hS hl)
theorem b_ixor (hO : OKc p R s m args meth c G D cy ad cc own nL d rt) {x y : Int32} (hdg : decode cc pc = .ok (.ixor, 1)) (K : BL p l e R s m args below meth c G D cy ad nL Qf (pc + 1) lv (.int (x ^^^ y) :: st) M o) : BL p l e R s m args below meth c G D cy ad nL Qf pc lv (.int y :: .int x :: st) M o := fun r hr H locs ls hW hS hl => lv_ixor hO.1 hO.2.1 hdg (K r hr H locs ls hW hS hl)
theorem b_ishl (hO : OKc p R s m args meth c G D cy ad cc own nL d rt) {x y : Int32} (hdg : decode cc pc = .ok (.ishl, 1)) (K : BL p l e R s m args below meth c G D cy ad nL Qf (pc + 1) lv (.int (x <<< (y &&& 31)) :: st) M o) : BL p l e R s m args below meth c G D cy ad nL Qf pc lv (.int y :: .int x :: st) M o := fun r hr H locs ls hW hS hl => lv_ishl hO.1 hO.2.1 hdg (K r hr H locs ls hW hS hl)
theorem b_ishr (hO : OKc p R s m args meth c G D cy ad cc own nL d rt) {x y : Int32} (hdg : decode cc pc = .ok (.ishr, 1)) (K : BL p l e R s m args below meth c G D cy ad nL Qf (pc + 1) lv (.int (x >>> (y &&& 31)) :: st) M o) : BL p l e R s m args below meth c G D cy ad nL Qf pc lv (.int y :: .int x :: st) M o := fun r hr H locs ls hW hS hl => lv_ishr hO.1 hO.2.1 hdg (K r hr H locs ls hW hS hl)
theorem b_idiv (hO : OKc p R s m args meth c G D cy ad cc own nL d rt) {x y : Int32} (hdg : decode cc pc = .ok (.idiv, 1)) (K : BL p l e R s m args below meth c G D cy ad nL Qf (pc + 1) lv (.int (x / y) :: st) M o) : BL p l e R s m args below meth c G D cy ad nL Qf pc lv (.int y :: .int x :: st) M (if y = 0 then none else o) := fun r hr H locs ls hW hS hl => by
  by_cases h : y = 0
  · rw [if_pos h] at hr; cases hr
  · rw [if_neg h] at hr
    exact lv_idiv hO.1 hO.2.1 hdg h (K r hr H locs ls hW hS hl)
theorem b_irem (hO : OKc p R s m args meth c G D cy ad cc own nL d rt) {x y : Int32} (hdg : decode cc pc = .ok (.irem, 1)) (K : BL p l e R s m args below meth c G D cy ad nL Qf (pc + 1) lv (.int (rem32 x y) :: st) M o) : BL p l e R s m args below meth c G D cy ad nL Qf pc lv (.int y :: .int x :: st) M (if y = 0 then none else o) := fun r hr H locs ls hW hS hl => by
  by_cases h : y = 0
  · rw [if_pos h] at hr; cases hr
  · rw [if_neg h] at hr
    exact lv_irem hO.1 hO.2.1 hdg h (K r hr H locs ls hW hS hl)
theorem b_ladd (hO : OKc p R s m args meth c G D cy ad cc own nL d rt) {x y : Int64} (hdg : decode cc pc = .ok (.ladd, 1)) (K : BL p l e R s m args below meth c G D cy ad nL Qf (pc + 1) lv (.long (x + y) :: st) M o) : BL p l e R s m args below meth c G D cy ad nL Qf pc lv (.long y :: .long x :: st) M o := fun r hr H locs ls hW hS hl => lv_ladd hO.1 hO.2.1 hdg (K r hr H locs ls hW hS hl)
theorem b_lsub (hO : OKc p R s m args meth c G D cy ad cc own nL d rt) {x y : Int64} (hdg : decode cc pc = .ok (.lsub, 1)) (K : BL p l e R s m args below meth c G D cy ad nL Qf (pc + 1) lv (.long (x - y) :: st) M o) : BL p l e R s m args below meth c G D cy ad nL Qf pc lv (.long y :: .long x :: st) M o := fun r hr H locs ls hW hS hl => lv_lsub hO.1 hO.2.1 hdg (K r hr H locs ls hW hS hl)
theorem b_lmul (hO : OKc p R s m args meth c G D cy ad cc own nL d rt) {x y : Int64} (hdg : decode cc pc = .ok (.lmul, 1)) (K : BL p l e R s m args below meth c G D cy ad nL Qf (pc + 1) lv (.long (x * y) :: st) M o) : BL p l e R s m args below meth c G D cy ad nL Qf pc lv (.long y :: .long x :: st) M o := fun r hr H locs ls hW hS hl => lv_lmul hO.1 hO.2.1 hdg (K r hr H locs ls hW hS hl)
theorem b_land (hO : OKc p R s m args meth c G D cy ad cc own nL d rt) {x y : Int64} (hdg : decode cc pc = .ok (.land, 1)) (K : BL p l e R s m args below meth c G D cy ad nL Qf (pc + 1) lv (.long (x &&& y) :: st) M o) : BL p l e R s m args below meth c G D cy ad nL Qf pc lv (.long y :: .long x :: st) M o := fun r hr H locs ls hW hS hl => lv_land hO.1 hO.2.1 hdg (K r hr H locs ls hW hS hl)
theorem b_lor (hO : OKc p R s m args meth c G D cy ad cc own nL d rt) {x y : Int64} (hdg : decode cc pc = .ok (.lor, 1)) (K : BL p l e R s m args below meth c G D cy ad nL Qf (pc + 1) lv (.long (x ||| y) :: st) M o) : BL p l e R s m args below meth c G D cy ad nL Qf pc lv (.long y :: .long x :: st) M o := fun r hr H locs ls hW hS hl => lv_lor hO.1 hO.2.1 hdg (K r hr H locs ls hW hS hl)
theorem b_ldiv (hO : OKc p R s m args meth c G D cy ad cc own nL d rt) {x y : Int64} (hdg : decode cc pc = .ok (.ldiv, 1)) (K : BL p l e R s m args below meth c G D cy ad nL Qf (pc + 1) lv (.long (x / y) :: st) M o) : BL p l e R s m args below meth c G D cy ad nL Qf pc lv (.long y :: .long x :: st) M (if y = 0 then none else o) := fun r hr H locs ls hW hS hl => by
  by_cases h : y = 0
  · rw [if_pos h] at hr; cases hr
  · rw [if_neg h] at hr
    exact lv_ldiv hO.1 hO.2.1 hdg h (K r hr H locs ls hW hS hl)
theorem b_lrem (hO : OKc p R s m args meth c G D cy ad cc own nL d rt) {x y : Int64} (hdg : decode cc pc = .ok (.lrem, 1)) (K : BL p l e R s m args below meth c G D cy ad nL Qf (pc + 1) lv (.long (rem64 x y) :: st) M o) : BL p l e R s m args below meth c G D cy ad nL Qf pc lv (.long y :: .long x :: st) M (if y = 0 then none else o) := fun r hr H locs ls hW hS hl => by
  by_cases h : y = 0
  · rw [if_pos h] at hr; cases hr
  · rw [if_neg h] at hr
    exact lv_lrem hO.1 hO.2.1 hdg h (K r hr H locs ls hW hS hl)
theorem b_lcmp (hO : OKc p R s m args meth c G D cy ad cc own nL d rt) {x y : Int64} (hdg : decode cc pc = .ok (.lcmp, 1)) (K : BL p l e R s m args below meth c G D cy ad nL Qf (pc + 1) lv (.int (lg_cmp x y) :: st) M o) : BL p l e R s m args below meth c G D cy ad nL Qf pc lv (.long y :: .long x :: st) M o := fun r hr H locs ls hW hS hl => W.lcmp hO.1 hO.2.1 hdg (K r hr H locs ls hW hS hl)
theorem b_i2l (hO : OKc p R s m args meth c G D cy ad cc own nL d rt) {x : Int32} (hdg : decode cc pc = .ok (.i2l, 1)) (K : BL p l e R s m args below meth c G D cy ad nL Qf (pc + 1) lv (.long x.toInt64 :: st) M o) : BL p l e R s m args below meth c G D cy ad nL Qf pc lv (.int x :: st) M o := fun r hr H locs ls hW hS hl => lv_i2l hO.1 hO.2.1 hdg rfl (K r hr H locs ls hW hS hl)
theorem b_l2i (hO : OKc p R s m args meth c G D cy ad cc own nL d rt) {x : Int64} (hdg : decode cc pc = .ok (.l2i, 1)) (K : BL p l e R s m args below meth c G D cy ad nL Qf (pc + 1) lv (.int x.toInt32 :: st) M o) : BL p l e R s m args below meth c G D cy ad nL Qf pc lv (.long x :: st) M o := fun r hr H locs ls hW hS hl => lv_l2i hO.1 hO.2.1 hdg rfl (K r hr H locs ls hW hS hl)
theorem b_lshl (hO : OKc p R s m args meth c G D cy ad cc own nL d rt) {x : Int64} {y : Int32} (hdg : decode cc pc = .ok (.lshl, 1)) (K : BL p l e R s m args below meth c G D cy ad nL Qf (pc + 1) lv (.long (x <<< (y.toInt64 &&& 63)) :: st) M o) : BL p l e R s m args below meth c G D cy ad nL Qf pc lv (.int y :: .long x :: st) M o := fun r hr H locs ls hW hS hl => lv_lshl hO.1 hO.2.1 hdg rfl (K r hr H locs ls hW hS hl)
theorem b_lshr (hO : OKc p R s m args meth c G D cy ad cc own nL d rt) {x : Int64} {y : Int32} (hdg : decode cc pc = .ok (.lshr, 1)) (K : BL p l e R s m args below meth c G D cy ad nL Qf (pc + 1) lv (.long (x >>> (y.toInt64 &&& 63)) :: st) M o) : BL p l e R s m args below meth c G D cy ad nL Qf pc lv (.int y :: .long x :: st) M o := fun r hr H locs ls hW hS hl => lv_lshr hO.1 hO.2.1 hdg rfl (K r hr H locs ls hW hS hl)
theorem b_dup (hO : OKc p R s m args meth c G D cy ad cc own nL d rt) {va : Value} (hdg : decode cc pc = .ok (.dup, 1)) (hva : va.category = 1) (K : BL p l e R s m args below meth c G D cy ad nL Qf (pc + 1) lv (va :: va :: st) M o) : BL p l e R s m args below meth c G D cy ad nL Qf pc lv (va :: st) M o := fun r hr H locs ls hW hS hl => lv_dup hO.1 hO.2.1 hdg hva (K r hr H locs ls hW hS hl)
theorem b_pop (hO : OKc p R s m args meth c G D cy ad cc own nL d rt) {va : Value} (hdg : decode cc pc = .ok (.pop, 1)) (hva : va.category = 1) (K : BL p l e R s m args below meth c G D cy ad nL Qf (pc + 1) lv st M o) : BL p l e R s m args below meth c G D cy ad nL Qf pc lv (va :: st) M o := fun r hr H locs ls hW hS hl => lv_pop hO.1 hO.2.1 hdg hva (K r hr H locs ls hW hS hl)
theorem b_dup2 (hO : OKc p R s m args meth c G D cy ad cc own nL d rt) {va vb : Value} (hdg : decode cc pc = .ok (.dup2, 1)) (hva : va.category = 1) (hvb : vb.category = 1) (K : BL p l e R s m args below meth c G D cy ad nL Qf (pc + 1) lv (va :: vb :: va :: vb :: st) M o) : BL p l e R s m args below meth c G D cy ad nL Qf pc lv (va :: vb :: st) M o := fun r hr H locs ls hW hS hl => lv_dup2_11 hO.1 hO.2.1 hdg hva hvb (K r hr H locs ls hW hS hl)
theorem b_if_eq (hO : OKc p R s m args meth c G D cy ad cc own nL d rt) {x : Int32} {off : Int} {tgt : Nat} (hdg : decode cc pc = .ok (.ifCond .eq off, 3)) (ht : (pc : Int) + off = (tgt : Int)) (kt : BL p l e R s m args below meth c G D cy ad nL Qf tgt lv st M o1) (kf : BL p l e R s m args below meth c G D cy ad nL Qf (pc + 3) lv st M o2) : BL p l e R s m args below meth c G D cy ad nL Qf pc lv (.int x :: st) M (if x = 0 then o1 else o2) := fun r hr H locs ls hW hS hl => lv_if_eq hO.1 hO.2.1 hdg ht (fun h => kt r (by rw [if_pos h] at hr; exact hr) H locs ls hW hS hl) (fun h => kf r (by rw [if_neg h] at hr; exact hr) H locs ls hW hS hl)
theorem b_icmp_eq (hO : OKc p R s m args meth c G D cy ad cc own nL d rt) {x y : Int32} {off : Int} {tgt : Nat} (hdg : decode cc pc = .ok (.if_icmp .eq off, 3)) (ht : (pc : Int) + off = (tgt : Int)) (kt : BL p l e R s m args below meth c G D cy ad nL Qf tgt lv st M o1) (kf : BL p l e R s m args below meth c G D cy ad nL Qf (pc + 3) lv st M o2) : BL p l e R s m args below meth c G D cy ad nL Qf pc lv (.int y :: .int x :: st) M (if x = y then o1 else o2) := fun r hr H locs ls hW hS hl => lv_icmp_eq hO.1 hO.2.1 hdg ht (fun h => kt r (by rw [if_pos h] at hr; exact hr) H locs ls hW hS hl) (fun h => kf r (by rw [if_neg h] at hr; exact hr) H locs ls hW hS hl)
theorem b_if_ne (hO : OKc p R s m args meth c G D cy ad cc own nL d rt) {x : Int32} {off : Int} {tgt : Nat} (hdg : decode cc pc = .ok (.ifCond .ne off, 3)) (ht : (pc : Int) + off = (tgt : Int)) (kt : BL p l e R s m args below meth c G D cy ad nL Qf tgt lv st M o1) (kf : BL p l e R s m args below meth c G D cy ad nL Qf (pc + 3) lv st M o2) : BL p l e R s m args below meth c G D cy ad nL Qf pc lv (.int x :: st) M (if x = 0 then o2 else o1) := fun r hr H locs ls hW hS hl => lv_if_ne hO.1 hO.2.1 hdg ht (fun h => kt r (by rw [if_neg h] at hr; exact hr) H locs ls hW hS hl) (fun h => kf r (by rw [if_pos h] at hr; exact hr) H locs ls hW hS hl)
theorem b_icmp_ne (hO : OKc p R s m args meth c G D cy ad cc own nL d rt) {x y : Int32} {off : Int} {tgt : Nat} (hdg : decode cc pc = .ok (.if_icmp .ne off, 3)) (ht : (pc : Int) + off = (tgt : Int)) (kt : BL p l e R s m args below meth c G D cy ad nL Qf tgt lv st M o1) (kf : BL p l e R s m args below meth c G D cy ad nL Qf (pc + 3) lv st M o2) : BL p l e R s m args below meth c G D cy ad nL Qf pc lv (.int y :: .int x :: st) M (if x = y then o2 else o1) := fun r hr H locs ls hW hS hl => lv_icmp_ne hO.1 hO.2.1 hdg ht (fun h => kt r (by rw [if_neg h] at hr; exact hr) H locs ls hW hS hl) (fun h => kf r (by rw [if_pos h] at hr; exact hr) H locs ls hW hS hl)
theorem b_if_lt (hO : OKc p R s m args meth c G D cy ad cc own nL d rt) {x : Int32} {off : Int} {tgt : Nat} (hdg : decode cc pc = .ok (.ifCond .lt off, 3)) (ht : (pc : Int) + off = (tgt : Int)) (kt : BL p l e R s m args below meth c G D cy ad nL Qf tgt lv st M o1) (kf : BL p l e R s m args below meth c G D cy ad nL Qf (pc + 3) lv st M o2) : BL p l e R s m args below meth c G D cy ad nL Qf pc lv (.int x :: st) M (if x < 0 then o1 else o2) := fun r hr H locs ls hW hS hl => lv_if_lt hO.1 hO.2.1 hdg ht (fun h => kt r (by rw [if_pos h] at hr; exact hr) H locs ls hW hS hl) (fun h => kf r (by rw [if_neg h] at hr; exact hr) H locs ls hW hS hl)
theorem b_icmp_lt (hO : OKc p R s m args meth c G D cy ad cc own nL d rt) {x y : Int32} {off : Int} {tgt : Nat} (hdg : decode cc pc = .ok (.if_icmp .lt off, 3)) (ht : (pc : Int) + off = (tgt : Int)) (kt : BL p l e R s m args below meth c G D cy ad nL Qf tgt lv st M o1) (kf : BL p l e R s m args below meth c G D cy ad nL Qf (pc + 3) lv st M o2) : BL p l e R s m args below meth c G D cy ad nL Qf pc lv (.int y :: .int x :: st) M (if x < y then o1 else o2) := fun r hr H locs ls hW hS hl => lv_icmp_lt hO.1 hO.2.1 hdg ht (fun h => kt r (by rw [if_pos h] at hr; exact hr) H locs ls hW hS hl) (fun h => kf r (by rw [if_neg h] at hr; exact hr) H locs ls hW hS hl)
theorem b_if_ge (hO : OKc p R s m args meth c G D cy ad cc own nL d rt) {x : Int32} {off : Int} {tgt : Nat} (hdg : decode cc pc = .ok (.ifCond .ge off, 3)) (ht : (pc : Int) + off = (tgt : Int)) (kt : BL p l e R s m args below meth c G D cy ad nL Qf tgt lv st M o1) (kf : BL p l e R s m args below meth c G D cy ad nL Qf (pc + 3) lv st M o2) : BL p l e R s m args below meth c G D cy ad nL Qf pc lv (.int x :: st) M (if 0 ≤ x then o1 else o2) := fun r hr H locs ls hW hS hl => lv_if_ge hO.1 hO.2.1 hdg ht (fun h => kt r (by rw [if_pos h] at hr; exact hr) H locs ls hW hS hl) (fun h => kf r (by rw [if_neg h] at hr; exact hr) H locs ls hW hS hl)
theorem b_icmp_ge (hO : OKc p R s m args meth c G D cy ad cc own nL d rt) {x y : Int32} {off : Int} {tgt : Nat} (hdg : decode cc pc = .ok (.if_icmp .ge off, 3)) (ht : (pc : Int) + off = (tgt : Int)) (kt : BL p l e R s m args below meth c G D cy ad nL Qf tgt lv st M o1) (kf : BL p l e R s m args below meth c G D cy ad nL Qf (pc + 3) lv st M o2) : BL p l e R s m args below meth c G D cy ad nL Qf pc lv (.int y :: .int x :: st) M (if y ≤ x then o1 else o2) := fun r hr H locs ls hW hS hl => lv_icmp_ge hO.1 hO.2.1 hdg ht (fun h => kt r (by rw [if_pos h] at hr; exact hr) H locs ls hW hS hl) (fun h => kf r (by rw [if_neg h] at hr; exact hr) H locs ls hW hS hl)
theorem b_if_gt (hO : OKc p R s m args meth c G D cy ad cc own nL d rt) {x : Int32} {off : Int} {tgt : Nat} (hdg : decode cc pc = .ok (.ifCond .gt off, 3)) (ht : (pc : Int) + off = (tgt : Int)) (kt : BL p l e R s m args below meth c G D cy ad nL Qf tgt lv st M o1) (kf : BL p l e R s m args below meth c G D cy ad nL Qf (pc + 3) lv st M o2) : BL p l e R s m args below meth c G D cy ad nL Qf pc lv (.int x :: st) M (if 0 < x then o1 else o2) := fun r hr H locs ls hW hS hl => lv_if_gt hO.1 hO.2.1 hdg ht (fun h => kt r (by rw [if_pos h] at hr; exact hr) H locs ls hW hS hl) (fun h => kf r (by rw [if_neg h] at hr; exact hr) H locs ls hW hS hl)
theorem b_icmp_gt (hO : OKc p R s m args meth c G D cy ad cc own nL d rt) {x y : Int32} {off : Int} {tgt : Nat} (hdg : decode cc pc = .ok (.if_icmp .gt off, 3)) (ht : (pc : Int) + off = (tgt : Int)) (kt : BL p l e R s m args below meth c G D cy ad nL Qf tgt lv st M o1) (kf : BL p l e R s m args below meth c G D cy ad nL Qf (pc + 3) lv st M o2) : BL p l e R s m args below meth c G D cy ad nL Qf pc lv (.int y :: .int x :: st) M (if y < x then o1 else o2) := fun r hr H locs ls hW hS hl => lv_icmp_gt hO.1 hO.2.1 hdg ht (fun h => kt r (by rw [if_pos h] at hr; exact hr) H locs ls hW hS hl) (fun h => kf r (by rw [if_neg h] at hr; exact hr) H locs ls hW hS hl)
theorem b_if_le (hO : OKc p R s m args meth c G D cy ad cc own nL d rt) {x : Int32} {off : Int} {tgt : Nat} (hdg : decode cc pc = .ok (.ifCond .le off, 3)) (ht : (pc : Int) + off = (tgt : Int)) (kt : BL p l e R s m args below meth c G D cy ad nL Qf tgt lv st M o1) (kf : BL p l e R s m args below meth c G D cy ad nL Qf (pc + 3) lv st M o2) : BL p l e R s m args below meth c G D cy ad nL Qf pc lv (.int x :: st) M (if x ≤ 0 then o1 else o2) := fun r hr H locs ls hW hS hl => lv_if_le hO.1 hO.2.1 hdg ht (fun h => kt r (by rw [if_pos h] at hr; exact hr) H locs ls hW hS hl) (fun h => kf r (by rw [if_neg h] at hr; exact hr) H locs ls hW hS hl)
theorem b_icmp_le (hO : OKc p R s m args meth c G D cy ad cc own nL d rt) {x y : Int32} {off : Int} {tgt : Nat} (hdg : decode cc pc = .ok (.if_icmp .le off, 3)) (ht : (pc : Int) + off = (tgt : Int)) (kt : BL p l e R s m args below meth c G D cy ad nL Qf tgt lv st M o1) (kf : BL p l e R s m args below meth c G D cy ad nL Qf (pc + 3) lv st M o2) : BL p l e R s m args below meth c G D cy ad nL Qf pc lv (.int y :: .int x :: st) M (if x ≤ y then o1 else o2) := fun r hr H locs ls hW hS hl => lv_icmp_le hO.1 hO.2.1 hdg ht (fun h => kt r (by rw [if_pos h] at hr; exact hr) H locs ls hW hS hl) (fun h => kf r (by rw [if_neg h] at hr; exact hr) H locs ls hW hS hl)
theorem b_goto (hO : OKc p R s m args meth c G D cy ad cc own nL d rt) {off : Int} {tgt : Nat} (hdg : decode cc pc = .ok (.goto off, 3)) (ht : (pc : Int) + off = (tgt : Int)) (K : BL p l e R s m args below meth c G D cy ad nL Qf tgt lv st M o) : BL p l e R s m args below meth c G D cy ad nL Qf pc lv st M o := fun r hr H locs ls hW hS hl => lv_goto hO.1 hO.2.1 hdg ht (K r hr H locs ls hW hS hl)
theorem b_sub {lv' : List (Nat × Value)} (js : List Nat) (h : js.filterMap (fun j => lv[j]?) = lv') (K : BL p l e R s m args below meth c G D cy ad nL Qf pc lv' st M o) : BL p l e R s m args below meth c G D cy ad nL Qf pc lv st M o := fun r hr H locs ls hW hS hl => K r hr H locs ls hW hS (lv_sub hl js h)
theorem b_bnd {v : Mem} {k : Mem → Option ρ} (K : ∀ M1 : Mem, BL p l e R s m args below meth c G D cy ad nL Qf pc lv st M1 (k M1)) : BL p l e R s m args below meth c G D cy ad nL Qf pc lv st v (bnd v k) := K v
theorem b_topI {v : Int32} {k : Int32 → Option ρ} (K : ∀ x : Int32, BL p l e R s m args below meth c G D cy ad nL Qf pc lv (.int x :: st) M (k x)) : BL p l e R s m args below meth c G D cy ad nL Qf pc lv (.int v :: st) M (bnd v k) := K v
theorem b_topL {v : Int64} {k : Int64 → Option ρ} (K : ∀ x : Int64, BL p l e R s m args below meth c G D cy ad nL Qf pc lv (.long x :: st) M (k x)) : BL p l e R s m args below meth c G D cy ad nL Qf pc lv (.long v :: st) M (bnd v k) := K v
theorem b_none : BL p l e R s m args below meth c G D cy ad nL Qf pc lv st M none := fun r hr => by cases hr
theorem b_ldc (hO : OKc p R s m args meth c G D cy ad cc own nL d rt) {index : Nat} {v : Int32} (hw : Cond.constant own index v ∈ lw_g) (hdg : decode cc pc = .ok (.ldc index, 2)) (K : BL p l e R s m args below meth c G D cy ad nL Qf (pc + 2) lv (.int v :: st) M o) : BL p l e R s m args below meth c G D cy ad nL Qf pc lv st M o := fun r hr H locs ls hW hS hl => lv_ldc hO.1 hO.2.1 hO.2.2.2.1 (hO.2.2.2.2.1 _ hw) hdg (K r hr H locs ls hW hS hl)
theorem b_ldcw (hO : OKc p R s m args meth c G D cy ad cc own nL d rt) {index : Nat} {v : Int32} (hw : Cond.constant own index v ∈ lw_g) (hdg : decode cc pc = .ok (.ldc_w index, 3)) (K : BL p l e R s m args below meth c G D cy ad nL Qf (pc + 3) lv (.int v :: st) M o) : BL p l e R s m args below meth c G D cy ad nL Qf pc lv st M o := fun r hr H locs ls hW hS hl => lv_ldcw hO.1 hO.2.1 hO.2.2.2.1 (hO.2.2.2.2.1 _ hw) hdg (K r hr H locs ls hW hS hl)
theorem b_ldc2 (hO : OKc p R s m args meth c G D cy ad cc own nL d rt) {index : Nat} {v : Int64} (hw : Cond.constantLong own index v ∈ lw_g) (hdg : decode cc pc = .ok (.ldc2_w index, 3)) (K : BL p l e R s m args below meth c G D cy ad nL Qf (pc + 3) lv (.long v :: st) M o) : BL p l e R s m args below meth c G D cy ad nL Qf pc lv st M o := fun r hr H locs ls hW hS hl => lv_ldc2 hO.1 hO.2.1 hO.2.2.2.1 (hO.2.2.2.2.1 _ hw) hdg (K r hr H locs ls hW hS hl)
/-- what the tables say of a field of class ci, asked by entry idx of own -/
def FL (own : String) (idx ci k : Nat) (C : String) (T : u_T) (N : Nat) (ty0 : Nat → FieldType) : Prop := vwCl[ci]? = some (C, T, N) ∧ (∀ w ∈ u_ws C T N, w ∈ lw_g) ∧ k < N ∧ Cond.fieldLink own idx (T k).1 (T k).2.1 (T k).2.2.1 ∈ lw_g ∧ ci < 13 ∧ (∀ k, k < N → parseFieldDescriptor (T k).2.2.1 = some (ty0 k)) ∧ (∀ a, a < N → ∀ b, b < N → a ≠ b → (T a).2.1 ≠ (T b).2.1)
theorem b_get (hO : OKc p R s m args meth c G D cy ad cc own nL d rt) {C : String} {T : u_T} {N : Nat} {ty0 : Nat → FieldType} {idx ci k q : Nat} (hF : FL own idx ci k C T N ty0) (hq : isK G q ci) {v : Value} (hv : (mkF ad M q 0 (G.ds ci))[k]? = some v) (hdg : decode cc pc = .ok (.getfield idx, 3)) (K : BL p l e R s m args below meth c G D cy ad nL Qf (pc + 3) lv (v :: st) M o) : BL p l e R s m args below meth c G D cy ad nL Qf pc lv (.ref (ad q) :: st) M o := fun r hr H locs ls hW hS hl => by
  obtain ⟨h1, h2, h3, h4, h5, h6, h7⟩ := hF
  exact va_get (D := D) (ci := ci) (v := v) (C := C) (T := T) (N := N) hO.1 hO.2.1 hO.2.2.2.2.1 h2 hO.2.2.2.1 hO.2.2.2.2.2.1 hW.1 q (by rw [wl_get hq.2, cE_obj hq h5]) h1 k h3 (hO.2.2.2.2.1 _ h4) (fun _ h9 => h9) hv hdg (K r hr H locs ls hW hS hl)
theorem b_getR (hO : OKc p R s m args meth c G D cy ad cc own nL d rt) {C : String} {T : u_T} {N : Nat} {ty0 : Nat → FieldType} {idx ci k q : Nat} (hF : FL own idx ci k C T N ty0) (hq : isK G q ci) {rk id : Nat} (hid : 128 * q + k = id) (hv : (mkF ad M q 0 (G.ds ci))[k]? = some (.ref (ad (gR M id)))) (hrk : G.rk id = rk) (h99 : rk < 99) (hdg : decode cc pc = .ok (.getfield idx, 3)) (K : isK G (gR M id) rk → BL p l e R s m args below meth c G D cy ad nL Qf (pc + 3) lv (.ref (ad (gR M id)) :: st) M o) : BL p l e R s m args below meth c G D cy ad nL Qf pc lv (.ref (ad q) :: st) M o := fun r hr H locs ls hW hS hl => by
  have hk := hW.2 id (by rw [hrk]; exact h99)
  rw [hrk] at hk
  exact b_get hO hF hq hv hdg (K hk) r hr H locs ls hW hS hl
theorem b_putI (hO : OKc p R s m args meth c G D cy ad cc own nL d rt) {C : String} {T : u_T} {N : Nat} {ty0 : Nat → FieldType} {idx ci k q : Nat} {v : Int32} (hF : FL own idx ci k C T N ty0) (hq : isK G q ci) (hd : (G.ds ci)[k]? = some 0) (hfin : (T k).2.2.2 = false) (hty : ty0 k = .int) {id : Nat} (hid : 128 * q + k = id) (hdg : decode cc pc = .ok (.putfield idx, 3)) (K : BL p l e R s m args below meth c G D cy ad nL Qf (pc + 3) lv st (sI M id v) o) : BL p l e R s m args below meth c G D cy ad nL Qf pc lv (.int v :: .ref (ad q) :: st) M o := fun r hr H locs ls hW hS hl => by
  subst hid
  obtain ⟨h1, h2, h3, h4, h5, h6, h7⟩ := hF
  exact va_put (D := D) (ci := ci) (v := .int v) (ty := .int) (C := C) (T := T) (N := N) hO.1 hO.2.1 hO.2.2.2.2.1 h2 ty0 h6 h7 hO.2.2.2.1 hO.2.2.2.2.2.1 hW.1 (wl_D hO.2.2.2.2.2.2.1 M) hS q (by rw [wl_get hq.2, cE_obj hq h5]) h1 k h3 (hO.2.2.2.2.1 _ h4) (fun _ h9 => h9) hfin (by rw [h6 k h3, hty]) rfl rfl (by rw [mkF_length]; exact (List.getElem?_eq_some_iff.mp hd).1) hdg (fun H1 locs1 hP _ hS1 => K r hr H1 locs1 ls ⟨by rw [wl_sI hO.2.2.2.2.2.2.2.2.2.2 hq h5 hd] at hP; exact hP, hW.2⟩ hS1 hl)
theorem b_putZ (hO : OKc p R s m args meth c G D cy ad cc own nL d rt) {C : String} {T : u_T} {N : Nat} {ty0 : Nat → FieldType} {idx ci k q : Nat} {v : Int32} (hF : FL own idx ci k C T N ty0) (hq : isK G q ci) (hd : (G.ds ci)[k]? = some 0) (hfin : (T k).2.2.2 = false) (hty : ty0 k = .boolean) {id : Nat} (hid : 128 * q + k = id) (hdg : decode cc pc = .ok (.putfield idx, 3)) (K : BL p l e R s m args below meth c G D cy ad nL Qf (pc + 3) lv st (sI M id v) o) : BL p l e R s m args below meth c G D cy ad nL Qf pc lv (.int v :: .ref (ad q) :: st) M (if v = 0 ∨ v = 1 then o else none) := fun r hr H locs ls hW hS hl => by
  subst hid
  by_cases hv01 : v = 0 ∨ v = 1
  · rw [if_pos hv01] at hr
    obtain ⟨h1, h2, h3, h4, h5, h6, h7⟩ := hF
    exact va_put (D := D) (ci := ci) (v := .int v) (ty := .boolean) (C := C) (T := T) (N := N) hO.1 hO.2.1 hO.2.2.2.2.1 h2 ty0 h6 h7 hO.2.2.2.1 hO.2.2.2.2.2.1 hW.1 (wl_D hO.2.2.2.2.2.2.1 M) hS q (by rw [wl_get hq.2, cE_obj hq h5]) h1 k h3 (hO.2.2.2.2.1 _ h4) (fun _ h9 => h9) hfin (by rw [h6 k h3, hty]) (by rcases hv01 with h | h <;> subst h <;> rfl) (by rcases hv01 with h | h <;> subst h <;> rfl) (by rw [mkF_length]; exact (List.getElem?_eq_some_iff.mp hd).1) hdg (fun H1 locs1 hP _ hS1 => K r hr H1 locs1 ls ⟨by rw [wl_sI hO.2.2.2.2.2.2.2.2.2.2 hq h5 hd] at hP; exact hP, hW.2⟩ hS1 hl)
  · rw [if_neg hv01] at hr; cases hr
theorem b_putL (hO : OKc p R s m args meth c G D cy ad cc own nL d rt) {C : String} {T : u_T} {N : Nat} {ty0 : Nat → FieldType} {idx ci k q : Nat} {v : Int64} (hF : FL own idx ci k C T N ty0) (hq : isK G q ci) (hd : (G.ds ci)[k]? = some 1) (hfin : (T k).2.2.2 = false) (hty : ty0 k = .long) {id : Nat} (hid : 128 * q + k = id) (hdg : decode cc pc = .ok (.putfield idx, 3)) (K : BL p l e R s m args below meth c G D cy ad nL Qf (pc + 3) lv st (sL M id v) o) : BL p l e R s m args below meth c G D cy ad nL Qf pc lv (.long v :: .ref (ad q) :: st) M o := fun r hr H locs ls hW hS hl => by
  subst hid
  obtain ⟨h1, h2, h3, h4, h5, h6, h7⟩ := hF
  exact va_put (D := D) (ci := ci) (v := .long v) (ty := .long) (C := C) (T := T) (N := N) hO.1 hO.2.1 hO.2.2.2.2.1 h2 ty0 h6 h7 hO.2.2.2.1 hO.2.2.2.2.2.1 hW.1 (wl_D hO.2.2.2.2.2.2.1 M) hS q (by rw [wl_get hq.2, cE_obj hq h5]) h1 k h3 (hO.2.2.2.2.1 _ h4) (fun _ h9 => h9) hfin (by rw [h6 k h3, hty]) rfl rfl (by rw [mkF_length]; exact (List.getElem?_eq_some_iff.mp hd).1) hdg (fun H1 locs1 hP _ hS1 => K r hr H1 locs1 ls ⟨by rw [wl_sL hO.2.2.2.2.2.2.2.2.2.2 hq h5 hd] at hP; exact hP, hW.2⟩ hS1 hl)
theorem WFm_sR {G : Lay} {M : Mem} {k v : Nat} (h : WFm G M) (hv : isK G v (G.rk k)) : WFm G (sR M k v) := fun j hj => by
  rw [gR_sR]
  by_cases e : j = k
  · rw [if_pos e, e]; exact hv
  · rw [if_neg e]; exact h j hj
theorem b_putR (hO : OKc p R s m args meth c G D cy ad cc own nL d rt) {C : String} {T : u_T} {N : Nat} {ty0 : Nat → FieldType} {idx ci k q : Nat} {v : Nat} {tn : String} (hF : FL own idx ci k C T N ty0) (hq : isK G q ci) (hd : (G.ds ci)[k]? = some 2) {id : Nat} (hid : 128 * q + k = id) (hv : isK G v (G.rk id)) (hfin : (T k).2.2.2 = false) (hty : ty0 k = .object tn) (hdg : decode cc pc = .ok (.putfield idx, 3)) (K : BL p l e R s m args below meth c G D cy ad nL Qf (pc + 3) lv st (sR M id v) o) : BL p l e R s m args below meth c G D cy ad nL Qf pc lv (.ref (ad v) :: .ref (ad q) :: st) M o := fun r hr H locs ls hW hS hl => by
  subst hid
  obtain ⟨h1, h2, h3, h4, h5, h6, h7⟩ := hF
  exact va_put (D := D) (ci := ci) (v := .ref (ad v)) (ty := .object tn) (C := C) (T := T) (N := N) hO.1 hO.2.1 hO.2.2.2.2.1 h2 ty0 h6 h7 hO.2.2.2.1 hO.2.2.2.2.2.1 hW.1 (wl_D hO.2.2.2.2.2.2.1 M) hS q (by rw [wl_get hq.2, cE_obj hq h5]) h1 k h3 (hO.2.2.2.2.1 _ h4) (fun _ h9 => h9) hfin (by rw [h6 k h3, hty]) rfl rfl (by rw [mkF_length]; exact (List.getElem?_eq_some_iff.mp hd).1) hdg (fun H1 locs1 hP _ hS1 => K r hr H1 locs1 ls ⟨by rw [wl_sR hO.2.2.2.2.2.2.2.2.2.2 hq h5 hd] at hP; exact hP, WFm_sR hW.2 hv⟩ hS1 hl)
theorem b_iald (hO : OKc p R s m args meth c G D cy ad cc own nL d rt) {q n : Nat} {i : Int32} (hq : isK G q 13) (hn : G.ln q = n) (hdg : decode cc pc = .ok (.iaload, 1)) (K : BL p l e R s m args below meth c G D cy ad nL Qf (pc + 1) lv (.int (gA M q i.toNatClampNeg) :: st) M o) : BL p l e R s m args below meth c G D cy ad nL Qf pc lv (.int i :: .ref (ad q) :: st) M (if oob i n then none else o) := fun r hr H locs ls hW hS hl => by
  by_cases hg : oob i n
  · rw [if_pos hg] at hr; cases hr
  · rw [if_neg hg] at hr
    exact va_iald hO.1 hO.2.1 hO.2.2.2.2.2.1 hW.1 q 0 (by rw [wl_get hq.2, cE_int hq]) rfl (by rw [hn]; exact hg) hdg (K r hr H locs ls hW hS hl)
theorem b_zald (hO : OKc p R s m args meth c G D cy ad cc own nL d rt) {q n : Nat} {i : Int32} (hq : isK G q 15) (hn : G.ln q = n) (hdg : decode cc pc = .ok (.baload, 1)) (K : BL p l e R s m args below meth c G D cy ad nL Qf (pc + 1) lv (.int (gA M q i.toNatClampNeg) :: st) M o) : BL p l e R s m args below meth c G D cy ad nL Qf pc lv (.int i :: .ref (ad q) :: st) M (if oob i n then none else o) := fun r hr H locs ls hW hS hl => by
  by_cases hg : oob i n
  · rw [if_pos hg] at hr; cases hr
  · rw [if_neg hg] at hr
    exact va_zald hO.1 hO.2.1 hO.2.2.2.2.2.1 hW.1 q 2 (by rw [wl_get hq.2, cE_bool hq]) rfl (by rw [hn]; exact hg) hdg (K r hr H locs ls hW hS hl)
theorem b_lald (hO : OKc p R s m args meth c G D cy ad cc own nL d rt) {q n : Nat} {i : Int32} (hq : isK G q 14) (hn : G.ln q = n) (hdg : decode cc pc = .ok (.laload, 1)) (K : BL p l e R s m args below meth c G D cy ad nL Qf (pc + 1) lv (.long (gB M q i.toNatClampNeg) :: st) M o) : BL p l e R s m args below meth c G D cy ad nL Qf pc lv (.int i :: .ref (ad q) :: st) M (if oob i n then none else o) := fun r hr H locs ls hW hS hl => by
  by_cases hg : oob i n
  · rw [if_pos hg] at hr; cases hr
  · rw [if_neg hg] at hr
    exact va_lald hO.1 hO.2.1 hO.2.2.2.2.2.1 hW.1 q 1 (by rw [wl_get hq.2, cE_long hq]) rfl (by rw [hn]; exact hg) hdg (K r hr H locs ls hW hS hl)
theorem b_iast (hO : OKc p R s m args meth c G D cy ad cc own nL d rt) {q n : Nat} {i x : Int32} (hq : isK G q 13) (hn : G.ln q = n) (hdg : decode cc pc = .ok (.iastore, 1)) (K : BL p l e R s m args below meth c G D cy ad nL Qf (pc + 1) lv st (sA M q i.toNatClampNeg x) o) : BL p l e R s m args below meth c G D cy ad nL Qf pc lv (.int x :: .int i :: .ref (ad q) :: st) M (if oob i n then none else o) := fun r hr H locs ls hW hS hl => by
  by_cases hg : oob i n
  · rw [if_pos hg] at hr; cases hr
  · rw [if_neg hg] at hr
    exact va_iast hO.1 hO.2.1 hO.2.2.2.2.2.1 hW.1 (wl_D hO.2.2.2.2.2.2.1 M) hS q 0 (by rw [wl_get hq.2, cE_int hq]) rfl (by rw [hn]; exact hg) hdg (fun H1 locs1 hP _ hS1 => K r hr H1 locs1 ls ⟨by rw [wl_sA hq] at hP; exact hP, hW.2⟩ hS1 hl)
theorem b_last (hO : OKc p R s m args meth c G D cy ad cc own nL d rt) {q n : Nat} {i : Int32} {x : Int64} (hq : isK G q 14) (hn : G.ln q = n) (hdg : decode cc pc = .ok (.lastore, 1)) (K : BL p l e R s m args below meth c G D cy ad nL Qf (pc + 1) lv st (sB M q i.toNatClampNeg x) o) : BL p l e R s m args below meth c G D cy ad nL Qf pc lv (.long x :: .int i :: .ref (ad q) :: st) M (if oob i n then none else o) := fun r hr H locs ls hW hS hl => by
  by_cases hg : oob i n
  · rw [if_pos hg] at hr; cases hr
  · rw [if_neg hg] at hr
    exact va_last hO.1 hO.2.1 hO.2.2.2.2.2.1 hW.1 (wl_D hO.2.2.2.2.2.2.1 M) hS q 1 (by rw [wl_get hq.2, cE_long hq]) rfl (by rw [hn]; exact hg) hdg (fun H1 locs1 hP _ hS1 => K r hr H1 locs1 ls ⟨by rw [wl_sB hq] at hP; exact hP, hW.2⟩ hS1 hl)
theorem nar01 {v : Int32} (h : v = 0 ∨ v = 1) : vp_nar .boolean v = v := by rcases h with h | h <;> subst h <;> rfl
theorem b_zast (hO : OKc p R s m args meth c G D cy ad cc own nL d rt) {q n : Nat} {i x : Int32} (hq : isK G q 15) (hn : G.ln q = n) (hdg : decode cc pc = .ok (.bastore, 1)) (K : BL p l e R s m args below meth c G D cy ad nL Qf (pc + 1) lv st (sA M q i.toNatClampNeg x) o) : BL p l e R s m args below meth c G D cy ad nL Qf pc lv (.int x :: .int i :: .ref (ad q) :: st) M (if oob i n then none else if x = 0 ∨ x = 1 then o else none) := fun r hr H locs ls hW hS hl => by
  by_cases hg : oob i n
  · rw [if_pos hg] at hr; cases hr
  · rw [if_neg hg] at hr
    by_cases hx : x = 0 ∨ x = 1
    · rw [if_pos hx] at hr
      exact va_zast hO.1 hO.2.1 hO.2.2.2.2.2.1 hW.1 (wl_D hO.2.2.2.2.2.2.1 M) hS q 2 (by rw [wl_get hq.2, cE_bool hq]) rfl (by rw [hn]; exact hg) hdg (fun H1 locs1 hP _ hS1 => K r hr H1 locs1 ls ⟨by rw [nar01 hx, wl_sZ hq] at hP; exact hP, hW.2⟩ hS1 hl)
    · rw [if_neg hx] at hr; cases hr
theorem b_alen (hO : OKc p R s m args meth c G D cy ad cc own nL d rt) {q : Nat} {v : Int32} (hq : isK G q 13) (hv : Int32.ofNat (G.ln q) = v) (hdg : decode cc pc = .ok (.arraylength, 1)) (K : BL p l e R s m args below meth c G D cy ad nL Qf (pc + 1) lv (.int v :: st) M o) : BL p l e R s m args below meth c G D cy ad nL Qf pc lv (.ref (ad q) :: st) M o := fun r hr H locs ls hW hS hl => va_alen hO.1 hO.2.1 hO.2.2.2.2.2.1 hW.1 q 0 (by rw [wl_get hq.2, cE_int hq]) rfl hv hdg (K r hr H locs ls hW hS hl)
theorem b_aald (hO : OKc p R s m args meth c G D cy ad cc own nL d rt) {q n b : Nat} {i : Int32} (hq : isK G q 16) (hn : G.ln q = n) (hob : G.ob q = b) (hdg : decode cc pc = .ok (.aaload, 1)) (hk : ∀ j, j < n → isK G (b + j) 13) (K : isK G (b + i.toNatClampNeg) 13 → BL p l e R s m args below meth c G D cy ad nL Qf (pc + 1) lv (.ref (ad (b + i.toNatClampNeg)) :: st) M o) : BL p l e R s m args below meth c G D cy ad nL Qf pc lv (.int i :: .ref (ad q) :: st) M (if oob i n then none else o) := fun r hr H locs ls hW hS hl => by
  by_cases hg : oob i n
  · rw [if_pos hg] at hr; cases hr
  · rw [if_neg hg] at hr
    have hlt : i.toNatClampNeg < G.ln q := by rw [hn]; exact Nat.not_le.mp fun q => hg (Or.inr q)
    have ha : (wl G cy ad M)[q]? = some (ad q, .inl (cy 3, G.ln q, .inr (.inr (.inr (.inr (fun i => some (ad (G.ob q + i)))))))) := by rw [wl_get hq.2, cE_grid hq]
    have hkk := K (hk _ (by rw [← hn]; exact hlt)) r hr H locs ls hW hS hl
    rw [← hob] at hkk
    exact W.aald (v := .ref (ad (G.ob q + i.toNatClampNeg))) (ty := .array .int) hO.1 hO.2.1 (hW.1 q _ ha) ((hO.2.2.2.2.2.1.2 3 _ rfl).1 (G.ln q) (fun j => va_rf (some (ad (G.ob q + j))))) rfl (fun q => by cases q) (by show ¬ (i < 0 ∨ (arrV _ _ _).slots.size ≤ _); rw [arrV_size, hn]; exact hg) (by show (arrV _ _ _).slots[_]? = _; rw [arrV_read _ _ hlt]; rfl) rfl rfl hdg hkk
theorem b_iret {M : Mem} {v : Int32} (hO : OKc p R s m args meth c G D cy ad cc own nL d (some .int)) (hdg : decode cc pc = .ok (.ireturn, 1)) : BL p l e R s m args below meth c G D cy ad nL (QI G D cy ad) pc lv [.int v] M (some (v, M)) := fun r hr H locs ls hW hS hl => by
  cases hr
  exact W.iret (v := v) hO.1 hO.2.1 hO.2.2.2.2.2.2.2.2.1 (fun t ht hw => ⟨⟨v, M, rfl, rfl, ⟨by rw [ht]; exact hW.1, hW.2⟩, va_K.moved hw.alike hO.2.2.2.2.2.1⟩, hS.F ht⟩) hS.2.2 hdg hO.2.2.2.2.2.2.2.1
theorem b_zret {M : Mem} {v : Int32} (hO : OKc p R s m args meth c G D cy ad cc own nL d (some .boolean)) (hdg : decode cc pc = .ok (.ireturn, 1)) : BL p l e R s m args below meth c G D cy ad nL (QI G D cy ad) pc lv [.int v] M (if v = 0 ∨ v = 1 then some (v, M) else none) := fun r hr H locs ls hW hS hl => by
  by_cases h01 : v = 0 ∨ v = 1
  · rw [if_pos h01] at hr
    cases hr
    exact W.zret (v := v) (ty := .boolean) hO.1 hO.2.1 hO.2.2.2.2.2.2.2.2.1 (by rcases h01 with h | h <;> subst h <;> rfl) (fun t ht hw => ⟨⟨v, M, rfl, rfl, ⟨by rw [ht]; exact hW.1, hW.2⟩, va_K.moved hw.alike hO.2.2.2.2.2.1⟩, hS.F ht⟩) hS.2.2 hdg hO.2.2.2.2.2.2.2.1
  · rw [if_neg h01] at hr; cases hr
theorem b_lret {M : Mem} {v : Int64} (hO : OKc p R s m args meth c G D cy ad cc own nL d (some .long)) (hdg : decode cc pc = .ok (.lreturn, 1)) : BL p l e R s m args below meth c G D cy ad nL (QL G D cy ad) pc lv [.long v] M (some (v, M)) := fun r hr H locs ls hW hS hl => by
  cases hr
  exact W.lret (v := v) hO.1 hO.2.1 hO.2.2.2.2.2.2.2.2.1 (fun t ht hw => ⟨⟨v, M, rfl, rfl, ⟨by rw [ht]; exact hW.1, hW.2⟩, va_K.moved hw.alike hO.2.2.2.2.2.1⟩, hS.F ht⟩) hS.2.2 hdg hO.2.2.2.2.2.2.2.1
theorem b_vret {M : Mem} (hO : OKc p R s m args meth c G D cy ad cc own nL d none) (hdg : decode cc pc = .ok (.return_, 1)) : BL p l e R s m args below meth c G D cy ad nL (QV G D cy ad) pc lv [] M (some M) := fun r hr H locs ls hW hS hl => by
  cases hr
  exact W.vret hO.1 hO.2.1 hO.2.2.2.2.2.2.2.2.1 (fun t ht hw => ⟨⟨M, rfl, rfl, ⟨by rw [ht]; exact hW.1, hW.2⟩, va_K.moved hw.alike hO.2.2.2.2.2.1⟩, hS.F ht⟩) hS.2.2 hdg hO.2.2.2.2.2.2.2.1
/-- a method that the tables know: its code, how many parameters, that its class is ready -/
def MD (y : MethodName) (bytes : ByteArray) (maxL : Nat) (rt : Option FieldType) (n : Nat) : Prop := Cond.code y bytes maxL rt ∈ lw_g ∧ Cond.initialized y.cls ∈ lw_g ∧ (y.cls ≠ "java/lang/invoke/MethodHandle" ∧ y.cls ≠ "java/lang/invoke/VarHandle" ∧ (parseMethodDescriptor y.desc).map (fun d => d.parameters.length) = some n) ∧ maxL ≤ 45
def MV (y : MethodName) : Prop := Cond.instanceMethod y ∈ lw_g ∧ Cond.selects y.cls y y ∈ lw_g
theorem gd_all {y : MethodName} {bytes : ByteArray} {maxL n : Nat} {rt : Option FieldType} (h : MD y bytes maxL rt n) : GoodIn lw_g (.code y bytes maxL rt :: lw_g) := fun w hw => by
  rcases List.mem_cons.mp hw with e | e
  · subst e; exact ⟨h.1, good_of_word (List.all_eq_true.mp lw_good _ h.1)⟩
  · exact ⟨e, good_of_word (List.all_eq_true.mp lw_good _ e)⟩
theorem WT_blind {G : Lay} {D : va_G} {cy : Nat → ClassId} {ad : Nat → Nat} {M : Mem} {av : List Value} : FrameBlind (va_Pc av (WT G D cy ad M)) := fun a U g mk q => by
  obtain ⟨q0, q1, qK⟩ := q
  exact ⟨q0, q1, va_K.moved (u := U) (U := U.calling g mk a) (Vm.Alike.refl U.vm) qK⟩
theorem b_callVI (hO : OKc p R s m args meth c G D cy ad cc own nL d rt) {y : MethodName} {bytes : ByteArray} {maxL n d2 idx : Nat} {rt2 : Option FieldType} {q ci : Nat} {As : List Value} {Cq : vw_C} {o1 : Option (Int32 × Mem)} {kf : Int32 × Mem → Option ρ} (hM : MD y bytes maxL rt2 n) (hV : MV y) (hlk : Cond.methodLink own idx y ∈ lw_g) (hc : vwCl[ci]? = some Cq) (hcC : Cq.1 = y.cls) (hci : ci < 13) (hq : isK G q ci) (hC : CT l G D cy ad y bytes maxL rt2 d2 (QI G D cy ad) (.ref (ad q) :: As) M o1) (hdd : d2 + 1 ≤ d) (hn : As.length = n) {stk : List Value} (hst : stk = As.reverse ++ .ref (ad q) :: st) (hroom : (st.map fun v => v.category).sum ≤ 8) (hdg : decode cc pc = .ok (.invokevirtual idx, 3)) (kk : ∀ z : Int32 × Mem, BL p l e R s m args below meth c G D cy ad nL Qf (pc + 3) lv (.int z.1 :: st) z.2 (kf z)) : BL p l e R s m args below meth c G D cy ad nL Qf pc lv stk M (o1.bind kf) := fun r hr H locs ls hW hS hl => by
  obtain ⟨z, hz1, hk2⟩ := Option.bind_eq_some_iff.mp hr
  subst hst
  exact va_calli (va_runV (C := Cq.1) (As := As) (rest := st) ⟨hO.1, hO.2.1, hO.2.2.1, hO.2.2.2.1, hO.2.2.2.2.1⟩ (hC z hz1) ⟨(callB_of n hO.2.2.2.2.1 (gd_all hM) rfl rfl rfl (hO.2.2.2.2.1 _ hM.2.1) (hO.2.2.2.2.1 _ hlk) hM.2.2.1 ⟨by rw [hO.2.2.2.2.2.2.2.2.2.1]; exact hdd, by rw [hO.2.2.2.2.2.2.2.2.2.1]; have := hM.2.2.2; show 8 + (maxL + 11) + 64 * d2 ≤ 64 * d; omega⟩), hO.2.2.2.2.1 _ hV.1, by rw [hcC]; exact hO.2.2.2.2.1 _ hV.2⟩ ⟨WT_blind, va_recv hO.2.2.2.2.2.1 hW.1 hc (q0 := q) (by rw [wl_get hq.2, cE_obj hq hci]), fun U hU hw => ⟨rfl, ⟨by rw [hU]; exact hW.1, hW.2⟩, va_K.moved hw.alike hO.2.2.2.2.2.1⟩⟩ rfl hn hl.1 rfl (lv_room hroom) hdg ⟨Nat.zero_le _, Nat.zero_le _⟩) hS (fun _ _ h => h) (fun _ h => h) (fun v u t H1 locs1 ht hvm hw hB hz hk hS1 => by have hw2 : z = (v, u) := hw.symm; subst hw2; exact kk (v, u) r hk2 H1 locs1 ls ⟨by have := hB.1.1; rw [ht] at this; exact this, hB.1.2⟩ hS1 hl)
theorem b_callSI (hO : OKc p R s m args meth c G D cy ad cc own nL d rt) {y : MethodName} {bytes : ByteArray} {maxL n d2 idx : Nat} {rt2 : Option FieldType} {As : List Value} {o1 : Option (Int32 × Mem)} {kf : Int32 × Mem → Option ρ} (hM : MD y bytes maxL rt2 n) (hV : Cond.static y ∈ lw_g) (hlk : Cond.methodLink own idx y ∈ lw_g) (hC : CT l G D cy ad y bytes maxL rt2 d2 (QI G D cy ad) As M o1) (hdd : d2 + 1 ≤ d) (hn : As.length = n) {stk : List Value} (hst : stk = As.reverse ++ st) (hroom : (st.map fun v => v.category).sum ≤ 8) (hdg : decode cc pc = .ok (.invokestatic idx, 3)) (kk : ∀ z : Int32 × Mem, BL p l e R s m args below meth c G D cy ad nL Qf (pc + 3) lv (.int z.1 :: st) z.2 (kf z)) : BL p l e R s m args below meth c G D cy ad nL Qf pc lv stk M (o1.bind kf) := fun r hr H locs ls hW hS hl => by
  obtain ⟨z, hz1, hk2⟩ := Option.bind_eq_some_iff.mp hr
  subst hst
  exact va_calli (va_runS (As := As) (rest := st) ⟨hO.1, hO.2.1, hO.2.2.1, hO.2.2.2.1, hO.2.2.2.2.1⟩ (hC z hz1) ⟨(callB_of n hO.2.2.2.2.1 (gd_all hM) rfl rfl rfl (hO.2.2.2.2.1 _ hM.2.1) (hO.2.2.2.2.1 _ hlk) hM.2.2.1 ⟨by rw [hO.2.2.2.2.2.2.2.2.2.1]; exact hdd, by rw [hO.2.2.2.2.2.2.2.2.2.1]; have := hM.2.2.2; show 8 + (maxL + 11) + 64 * d2 ≤ 64 * d; omega⟩), hO.2.2.2.2.1 _ hV⟩ ⟨WT_blind, fun U hU hw => ⟨rfl, ⟨by rw [hU]; exact hW.1, hW.2⟩, va_K.moved hw.alike hO.2.2.2.2.2.1⟩⟩ rfl hn hl.1 rfl (lv_room hroom) hdg ⟨Nat.zero_le _, Nat.zero_le _⟩) hS (fun _ _ h => h) (fun _ h => h) (fun v u t H1 locs1 ht hvm hw hB hz hk hS1 => by have hw2 : z = (v, u) := hw.symm; subst hw2; exact kk (v, u) r hk2 H1 locs1 ls ⟨by have := hB.1.1; rw [ht] at this; exact this, hB.1.2⟩ hS1 hl)
theorem b_callVL (hO : OKc p R s m args meth c G D cy ad cc own nL d rt) {y : MethodName} {bytes : ByteArray} {maxL n d2 idx : Nat} {rt2 : Option FieldType} {q ci : Nat} {As : List Value} {Cq : vw_C} {o1 : Option (Int64 × Mem)} {kf : Int64 × Mem → Option ρ} (hM : MD y bytes maxL rt2 n) (hV : MV y) (hlk : Cond.methodLink own idx y ∈ lw_g) (hc : vwCl[ci]? = some Cq) (hcC : Cq.1 = y.cls) (hci : ci < 13) (hq : isK G q ci) (hC : CT l G D cy ad y bytes maxL rt2 d2 (QL G D cy ad) (.ref (ad q) :: As) M o1) (hdd : d2 + 1 ≤ d) (hn : As.length = n) {stk : List Value} (hst : stk = As.reverse ++ .ref (ad q) :: st) (hroom : (st.map fun v => v.category).sum ≤ 8) (hdg : decode cc pc = .ok (.invokevirtual idx, 3)) (kk : ∀ z : Int64 × Mem, BL p l e R s m args below meth c G D cy ad nL Qf (pc + 3) lv (.long z.1 :: st) z.2 (kf z)) : BL p l e R s m args below meth c G D cy ad nL Qf pc lv stk M (o1.bind kf) := fun r hr H locs ls hW hS hl => by
  obtain ⟨z, hz1, hk2⟩ := Option.bind_eq_some_iff.mp hr
  subst hst
  exact va_calll (va_runV (C := Cq.1) (As := As) (rest := st) ⟨hO.1, hO.2.1, hO.2.2.1, hO.2.2.2.1, hO.2.2.2.2.1⟩ (hC z hz1) ⟨(callB_of n hO.2.2.2.2.1 (gd_all hM) rfl rfl rfl (hO.2.2.2.2.1 _ hM.2.1) (hO.2.2.2.2.1 _ hlk) hM.2.2.1 ⟨by rw [hO.2.2.2.2.2.2.2.2.2.1]; exact hdd, by rw [hO.2.2.2.2.2.2.2.2.2.1]; have := hM.2.2.2; show 8 + (maxL + 11) + 64 * d2 ≤ 64 * d; omega⟩), hO.2.2.2.2.1 _ hV.1, by rw [hcC]; exact hO.2.2.2.2.1 _ hV.2⟩ ⟨WT_blind, va_recv hO.2.2.2.2.2.1 hW.1 hc (q0 := q) (by rw [wl_get hq.2, cE_obj hq hci]), fun U hU hw => ⟨rfl, ⟨by rw [hU]; exact hW.1, hW.2⟩, va_K.moved hw.alike hO.2.2.2.2.2.1⟩⟩ rfl hn hl.1 rfl (lv_room hroom) hdg ⟨Nat.zero_le _, Nat.zero_le _⟩) hS (fun _ _ h => h) (fun _ h => h) (fun v u t H1 locs1 ht hvm hw hB hz hk hS1 => by have hw2 : z = (v, u) := hw.symm; subst hw2; exact kk (v, u) r hk2 H1 locs1 ls ⟨by have := hB.1.1; rw [ht] at this; exact this, hB.1.2⟩ hS1 hl)
theorem b_callSL (hO : OKc p R s m args meth c G D cy ad cc own nL d rt) {y : MethodName} {bytes : ByteArray} {maxL n d2 idx : Nat} {rt2 : Option FieldType} {As : List Value} {o1 : Option (Int64 × Mem)} {kf : Int64 × Mem → Option ρ} (hM : MD y bytes maxL rt2 n) (hV : Cond.static y ∈ lw_g) (hlk : Cond.methodLink own idx y ∈ lw_g) (hC : CT l G D cy ad y bytes maxL rt2 d2 (QL G D cy ad) As M o1) (hdd : d2 + 1 ≤ d) (hn : As.length = n) {stk : List Value} (hst : stk = As.reverse ++ st) (hroom : (st.map fun v => v.category).sum ≤ 8) (hdg : decode cc pc = .ok (.invokestatic idx, 3)) (kk : ∀ z : Int64 × Mem, BL p l e R s m args below meth c G D cy ad nL Qf (pc + 3) lv (.long z.1 :: st) z.2 (kf z)) : BL p l e R s m args below meth c G D cy ad nL Qf pc lv stk M (o1.bind kf) := fun r hr H locs ls hW hS hl => by
  obtain ⟨z, hz1, hk2⟩ := Option.bind_eq_some_iff.mp hr
  subst hst
  exact va_calll (va_runS (As := As) (rest := st) ⟨hO.1, hO.2.1, hO.2.2.1, hO.2.2.2.1, hO.2.2.2.2.1⟩ (hC z hz1) ⟨(callB_of n hO.2.2.2.2.1 (gd_all hM) rfl rfl rfl (hO.2.2.2.2.1 _ hM.2.1) (hO.2.2.2.2.1 _ hlk) hM.2.2.1 ⟨by rw [hO.2.2.2.2.2.2.2.2.2.1]; exact hdd, by rw [hO.2.2.2.2.2.2.2.2.2.1]; have := hM.2.2.2; show 8 + (maxL + 11) + 64 * d2 ≤ 64 * d; omega⟩), hO.2.2.2.2.1 _ hV⟩ ⟨WT_blind, fun U hU hw => ⟨rfl, ⟨by rw [hU]; exact hW.1, hW.2⟩, va_K.moved hw.alike hO.2.2.2.2.2.1⟩⟩ rfl hn hl.1 rfl (lv_room hroom) hdg ⟨Nat.zero_le _, Nat.zero_le _⟩) hS (fun _ _ h => h) (fun _ h => h) (fun v u t H1 locs1 ht hvm hw hB hz hk hS1 => by have hw2 : z = (v, u) := hw.symm; subst hw2; exact kk (v, u) r hk2 H1 locs1 ls ⟨by have := hB.1.1; rw [ht] at this; exact this, hB.1.2⟩ hS1 hl)
theorem b_callVV (hO : OKc p R s m args meth c G D cy ad cc own nL d rt) {y : MethodName} {bytes : ByteArray} {maxL n d2 idx : Nat} {rt2 : Option FieldType} {q ci : Nat} {As : List Value} {Cq : vw_C} {o1 : Option (Mem)} {kf : Mem → Option ρ} (hM : MD y bytes maxL rt2 n) (hV : MV y) (hlk : Cond.methodLink own idx y ∈ lw_g) (hc : vwCl[ci]? = some Cq) (hcC : Cq.1 = y.cls) (hci : ci < 13) (hq : isK G q ci) (hC : CT l G D cy ad y bytes maxL rt2 d2 (QV G D cy ad) (.ref (ad q) :: As) M o1) (hdd : d2 + 1 ≤ d) (hn : As.length = n) {stk : List Value} (hst : stk = As.reverse ++ .ref (ad q) :: st) (hroom : (st.map fun v => v.category).sum ≤ 8) (hdg : decode cc pc = .ok (.invokevirtual idx, 3)) (kk : ∀ z : Mem, BL p l e R s m args below meth c G D cy ad nL Qf (pc + 3) lv (st) z (kf z)) : BL p l e R s m args below meth c G D cy ad nL Qf pc lv stk M (o1.bind kf) := fun r hr H locs ls hW hS hl => by
  obtain ⟨z, hz1, hk2⟩ := Option.bind_eq_some_iff.mp hr
  subst hst
  exact va_callv (va_runV (C := Cq.1) (As := As) (rest := st) ⟨hO.1, hO.2.1, hO.2.2.1, hO.2.2.2.1, hO.2.2.2.2.1⟩ (hC z hz1) ⟨(callB_of n hO.2.2.2.2.1 (gd_all hM) rfl rfl rfl (hO.2.2.2.2.1 _ hM.2.1) (hO.2.2.2.2.1 _ hlk) hM.2.2.1 ⟨by rw [hO.2.2.2.2.2.2.2.2.2.1]; exact hdd, by rw [hO.2.2.2.2.2.2.2.2.2.1]; have := hM.2.2.2; show 8 + (maxL + 11) + 64 * d2 ≤ 64 * d; omega⟩), hO.2.2.2.2.1 _ hV.1, by rw [hcC]; exact hO.2.2.2.2.1 _ hV.2⟩ ⟨WT_blind, va_recv hO.2.2.2.2.2.1 hW.1 hc (q0 := q) (by rw [wl_get hq.2, cE_obj hq hci]), fun U hU hw => ⟨rfl, ⟨by rw [hU]; exact hW.1, hW.2⟩, va_K.moved hw.alike hO.2.2.2.2.2.1⟩⟩ rfl hn hl.1 rfl (lv_room hroom) hdg ⟨Nat.zero_le _, Nat.zero_le _⟩) hS (fun _ _ h => h) (fun _ h => h) (fun u t H1 locs1 ht hvm hw hB hz hk hS1 => by have hw2 : z = u := hw.symm; subst hw2; exact kk z r hk2 H1 locs1 ls ⟨by have := hB.1.1; rw [ht] at this; exact this, hB.1.2⟩ hS1 hl)
theorem b_callSV (hO : OKc p R s m args meth c G D cy ad cc own nL d rt) {y : MethodName} {bytes : ByteArray} {maxL n d2 idx : Nat} {rt2 : Option FieldType} {As : List Value} {o1 : Option (Mem)} {kf : Mem → Option ρ} (hM : MD y bytes maxL rt2 n) (hV : Cond.static y ∈ lw_g) (hlk : Cond.methodLink own idx y ∈ lw_g) (hC : CT l G D cy ad y bytes maxL rt2 d2 (QV G D cy ad) As M o1) (hdd : d2 + 1 ≤ d) (hn : As.length = n) {stk : List Value} (hst : stk = As.reverse ++ st) (hroom : (st.map fun v => v.category).sum ≤ 8) (hdg : decode cc pc = .ok (.invokestatic idx, 3)) (kk : ∀ z : Mem, BL p l e R s m args below meth c G D cy ad nL Qf (pc + 3) lv (st) z (kf z)) : BL p l e R s m args below meth c G D cy ad nL Qf pc lv stk M (o1.bind kf) := fun r hr H locs ls hW hS hl => by
  obtain ⟨z, hz1, hk2⟩ := Option.bind_eq_some_iff.mp hr
  subst hst
  exact va_callv (va_runS (As := As) (rest := st) ⟨hO.1, hO.2.1, hO.2.2.1, hO.2.2.2.1, hO.2.2.2.2.1⟩ (hC z hz1) ⟨(callB_of n hO.2.2.2.2.1 (gd_all hM) rfl rfl rfl (hO.2.2.2.2.1 _ hM.2.1) (hO.2.2.2.2.1 _ hlk) hM.2.2.1 ⟨by rw [hO.2.2.2.2.2.2.2.2.2.1]; exact hdd, by rw [hO.2.2.2.2.2.2.2.2.2.1]; have := hM.2.2.2; show 8 + (maxL + 11) + 64 * d2 ≤ 64 * d; omega⟩), hO.2.2.2.2.1 _ hV⟩ ⟨WT_blind, fun U hU hw => ⟨rfl, ⟨by rw [hU]; exact hW.1, hW.2⟩, va_K.moved hw.alike hO.2.2.2.2.2.1⟩⟩ rfl hn hl.1 rfl (lv_room hroom) hdg ⟨Nat.zero_le _, Nat.zero_le _⟩) hS (fun _ _ h => h) (fun _ h => h) (fun u t H1 locs1 ht hvm hw hB hz hk hS1 => by have hw2 : z = u := hw.symm; subst hw2; exact kk z r hk2 H1 locs1 ls ⟨by have := hB.1.1; rw [ht] at this; exact this, hB.1.2⟩ hS1 hl)
theorem CT.mk {y : MethodName} {bytes : ByteArray} {maxL : Nat} {rt2 : Option FieldType} {av : List Value} (hG : LOK G) (hI : Inj G ad) (hy : plainName y.cls = true) (hlen : (lg_sl av).length ≤ maxL) (body : ∀ {p : Program} {e : Env} {s : State} {m : MethodId} {args : Array Value} {below : List Frame} {meth : Method} {c : Code}, OKc p (rmL d) s m args meth c G D cy ad bytes y.cls maxL d rt2 → BL p l e (rmL d) s m args below meth c G D cy ad maxL Qf 0 (lv_args 0 av) [] M o) : CT l G D cy ad y bytes maxL rt2 d Qf av M o := fun r hr => by
  refine Met.ofW (cc := bytes) (maxL := maxL) (ret := rt2) hy rfl ?_
  intro p e s m args below meth c s₁ B hml hv
  obtain ⟨rfl, hW, hK⟩ := hv
  have hts := atoms_spec (ws := .code y bytes maxL rt2 :: lw_g) B.pre
  have hown : s.vm.findClass y.cls = some m.cls := findClass_of_methodNamed B.named
  have hl := lv_entry av (n := maxL) hlen
  rw [lg_entry_eq]
  exact body ⟨B.exec, B.bytes, hml, hown, fun w hw => hts w (List.mem_cons_of_mem _ hw), hK, hI, B.notSynchronized, B.returns, rfl, hG⟩ r hr s.heap [] _ hW va_S.rf hl
theorem b_zretc {M : Mem} {v : Int32} (hO : OKc p R s m args meth c G D cy ad cc own nL d (some .boolean)) (h01 : v = 0 ∨ v = 1) (hdg : decode cc pc = .ok (.ireturn, 1)) : BL p l e R s m args below meth c G D cy ad nL (QI G D cy ad) pc lv [.int v] M (some (v, M)) := by
  have h := b_zret (l := l) (e := e) (below := below) (lv := lv) (M := M) (v := v) hO hdg
  rw [if_pos h01] at h
  exact h
theorem b_putZc (hO : OKc p R s m args meth c G D cy ad cc own nL d rt) {C : String} {T : u_T} {N : Nat} {ty0 : Nat → FieldType} {idx ci k q : Nat} {v : Int32} (hF : FL own idx ci k C T N ty0) (hq : isK G q ci) (hd : (G.ds ci)[k]? = some 0) (hfin : (T k).2.2.2 = false) (hty : ty0 k = .boolean) {id : Nat} (hid : 128 * q + k = id) (h01 : v = 0 ∨ v = 1) (hdg : decode cc pc = .ok (.putfield idx, 3)) (K : BL p l e R s m args below meth c G D cy ad nL Qf (pc + 3) lv st (sI M id v) o) : BL p l e R s m args below meth c G D cy ad nL Qf pc lv (.int v :: .ref (ad q) :: st) M o := by
  have h := b_putZ hO hF hq hd hfin hty hid hdg K
  rw [if_pos h01] at h
  exact h
theorem b_zastc (hO : OKc p R s m args meth c G D cy ad cc own nL d rt) {q n : Nat} {i x : Int32} (hq : isK G q 15) (hn : G.ln q = n) (h01 : x = 0 ∨ x = 1) (hdg : decode cc pc = .ok (.bastore, 1)) (K : BL p l e R s m args below meth c G D cy ad nL Qf (pc + 1) lv st (sA M q i.toNatClampNeg x) o) : BL p l e R s m args below meth c G D cy ad nL Qf pc lv (.int x :: .int i :: .ref (ad q) :: st) M (if oob i n then none else o) := by
  have h := b_zast hO hq hn hdg K
  rw [if_pos h01] at h
  exact h
theorem b_tabIn (hO : OKc p R s m args meth c G D cy ad cc own nL d rt) {dflt lo hi : Int} {offs : Array Int} {len : Nat} {x v : Int32} {off z : Int} {tgt : Nat} (hdg : decode cc pc = .ok (.tableswitch dflt lo hi offs, len)) (hz : v.toInt = z) (h1 : ¬ z < lo) (h2 : ¬ hi < z) (ho : offs[(z - lo).toNat]? = some off) (ht : (pc : Int) + off = (tgt : Int)) (K : BL p l e R s m args below meth c G D cy ad nL Qf tgt lv st M o1) (K2 : x.toInt ≠ z → BL p l e R s m args below meth c G D cy ad nL Qf pc lv (.int x :: st) M o2) : BL p l e R s m args below meth c G D cy ad nL Qf pc lv (.int x :: st) M (if x = v then o1 else o2) := fun r hr H locs ls hW hS hl => by
  subst hz
  by_cases h : x = v
  · rw [if_pos h] at hr
    subst h
    exact lv_tableIn hO.1 hO.2.1 hdg h1 h2 ho ht (K r hr H locs ls hW hS hl)
  · rw [if_neg h] at hr
    exact K2 (fun q => h (Int32.toInt_inj.mp q)) r hr H locs ls hW hS hl
theorem b_tabOut (hO : OKc p R s m args meth c G D cy ad cc own nL d rt) {dflt lo hi : Int} {offs : Array Int} {len : Nat} {x : Int32} {tgt : Nat} (hdg : decode cc pc = .ok (.tableswitch dflt lo hi offs, len)) (h : x.toInt < lo ∨ hi < x.toInt) (ht : (pc : Int) + dflt = (tgt : Int)) (K : BL p l e R s m args below meth c G D cy ad nL Qf tgt lv st M o) : BL p l e R s m args below meth c G D cy ad nL Qf pc lv (.int x :: st) M o := fun r hr H locs ls hW hS hl => lv_tableOut hO.1 hO.2.1 hdg h ht (K r hr H locs ls hW hS hl)
theorem b_lookIn (hO : OKc p R s m args meth c G D cy ad cc own nL d rt) {dflt : Int} {ps : Array (Int × Int)} {len : Nat} {x v : Int32} {off z : Int} {tgt : Nat} (hdg : decode cc pc = .ok (.lookupswitch dflt ps, len)) (hz : v.toInt = z) (hp : (ps.toList.zip (ps.toList.drop 1)).all (fun (a, next) => a.1 < next.1) = true) (ho : Op.lookupswitch.offset ps.toList dflt z = off) (ht : (pc : Int) + off = (tgt : Int)) (K : BL p l e R s m args below meth c G D cy ad nL Qf tgt lv st M o1) (K2 : ¬ x = v → BL p l e R s m args below meth c G D cy ad nL Qf pc lv (.int x :: st) M o2) : BL p l e R s m args below meth c G D cy ad nL Qf pc lv (.int x :: st) M (if x = v then o1 else o2) := fun r hr H locs ls hW hS hl => by
  subst hz
  by_cases h : x = v
  · rw [if_pos h] at hr
    subst h
    exact lv_lookup hO.1 hO.2.1 hdg hp ho ht (K r hr H locs ls hW hS hl)
  · rw [if_neg h] at hr
    exact K2 h r hr H locs ls hW hS hl
theorem b_lookOut (hO : OKc p R s m args meth c G D cy ad cc own nL d rt) {dflt : Int} {ps : Array (Int × Int)} {len : Nat} {x : Int32} {tgt : Nat} (hdg : decode cc pc = .ok (.lookupswitch dflt ps, len)) (hp : (ps.toList.zip (ps.toList.drop 1)).all (fun (a, next) => a.1 < next.1) = true) (ho : Op.lookupswitch.offset ps.toList dflt x.toInt = dflt) (ht : (pc : Int) + dflt = (tgt : Int)) (K : BL p l e R s m args below meth c G D cy ad nL Qf tgt lv st M o) : BL p l e R s m args below meth c G D cy ad nL Qf pc lv (.int x :: st) M o := fun r hr H locs ls hW hS hl => lv_lookup hO.1 hO.2.1 hdg hp ho ht (K r hr H locs ls hW hS hl)
theorem b_mmin (hO : OKc p R s m args meth c G D cy ad cc own nL d rt) {idx : Nat} {x y : Int32} (hlk : Cond.methodLink own idx Lib.Math.min.name ∈ lw_g) (hst : Cond.static Lib.Math.min.name ∈ lw_g) (hini : Cond.initialized "java/lang/Math" ∈ lw_g) (hcd : Cond.code Lib.Math.min.name Lib.Math.min.code 2 (some .int) ∈ lw_g) (hd : 1 ≤ d) (hroom : (st.map fun v => v.category).sum ≤ 8) (hdg : decode cc pc = .ok (.invokestatic idx, 3)) (K : BL p l e R s m args below meth c G D cy ad nL Qf (pc + 3) lv (.int (imin x y) :: st) M o) : BL p l e R s m args below meth c G D cy ad nL Qf pc lv (.int y :: .int x :: st) M o := fun r hr H locs ls hW hS hl => va_mmin hO.1 hO.2.1 (hO.2.2.1.trans hl.1.symm) hO.2.2.2.1 (hO.2.2.2.2.1 _ hlk) (hO.2.2.2.2.1 _ hst) (hO.2.2.2.2.1 _ hini) (hO.2.2.2.2.1 _ hcd) (by rw [hO.2.2.2.2.2.2.2.2.2.1]; exact hd) (by rw [hO.2.2.2.2.2.2.2.2.2.1]; show _ ≤ 64 * d; omega) (Nat.zero_le _) (Nat.zero_le _) hdg (K r hr H locs ls hW hS hl)
theorem b_mmax (hO : OKc p R s m args meth c G D cy ad cc own nL d rt) {idx : Nat} {x y : Int32} (hlk : Cond.methodLink own idx Lib.Math.max.name ∈ lw_g) (hst : Cond.static Lib.Math.max.name ∈ lw_g) (hini : Cond.initialized "java/lang/Math" ∈ lw_g) (hcd : Cond.code Lib.Math.max.name Lib.Math.max.code 2 (some .int) ∈ lw_g) (hd : 1 ≤ d) (hroom : (st.map fun v => v.category).sum ≤ 8) (hdg : decode cc pc = .ok (.invokestatic idx, 3)) (K : BL p l e R s m args below meth c G D cy ad nL Qf (pc + 3) lv (.int (imax x y) :: st) M o) : BL p l e R s m args below meth c G D cy ad nL Qf pc lv (.int y :: .int x :: st) M o := fun r hr H locs ls hW hS hl => va_mmax hO.1 hO.2.1 (hO.2.2.1.trans hl.1.symm) hO.2.2.2.1 (hO.2.2.2.2.1 _ hlk) (hO.2.2.2.2.1 _ hst) (hO.2.2.2.2.1 _ hini) (hO.2.2.2.2.1 _ hcd) (by rw [hO.2.2.2.2.2.2.2.2.2.1]; exact hd) (by rw [hO.2.2.2.2.2.2.2.2.2.1]; show _ ≤ 64 * d; omega) (Nat.zero_le _) (Nat.zero_le _) hdg (K r hr H locs ls hW hS hl)
theorem b_mmin_long (hO : OKc p R s m args meth c G D cy ad cc own nL d rt) {idx : Nat} {x y : Int64} (hlk : Cond.methodLink own idx Lib.MathLoose.min_long.x ∈ lw_g) (hst : Cond.static Lib.MathLoose.min_long.x ∈ lw_g) (hini : Cond.initialized "java/lang/Math" ∈ lw_g) (hcd : Cond.code Lib.MathLoose.min_long.x Lib.MathLoose.min_long.code 4 (some .long) ∈ lw_g) (hd : 1 ≤ d) (hroom : (st.map fun v => v.category).sum ≤ 8) (hdg : decode cc pc = .ok (.invokestatic idx, 3)) (K : BL p l e R s m args below meth c G D cy ad nL Qf (pc + 3) lv (.long (lmin x y) :: st) M o) : BL p l e R s m args below meth c G D cy ad nL Qf pc lv (.long y :: .long x :: st) M o := fun r hr H locs ls hW hS hl => va_mmin_long hO.1 hO.2.1 (hO.2.2.1.trans hl.1.symm) hO.2.2.2.1 (hO.2.2.2.2.1 _ hlk) (hO.2.2.2.2.1 _ hst) (hO.2.2.2.2.1 _ hini) (hO.2.2.2.2.1 _ hcd) (by rw [hO.2.2.2.2.2.2.2.2.2.1]; exact hd) (by rw [hO.2.2.2.2.2.2.2.2.2.1]; show _ ≤ 64 * d; omega) (Nat.zero_le _) (Nat.zero_le _) hdg (K r hr H locs ls hW hS hl)
theorem b_mmax_long (hO : OKc p R s m args meth c G D cy ad cc own nL d rt) {idx : Nat} {x y : Int64} (hlk : Cond.methodLink own idx Lib.MathLoose.max_long.x ∈ lw_g) (hst : Cond.static Lib.MathLoose.max_long.x ∈ lw_g) (hini : Cond.initialized "java/lang/Math" ∈ lw_g) (hcd : Cond.code Lib.MathLoose.max_long.x Lib.MathLoose.max_long.code 4 (some .long) ∈ lw_g) (hd : 1 ≤ d) (hroom : (st.map fun v => v.category).sum ≤ 8) (hdg : decode cc pc = .ok (.invokestatic idx, 3)) (K : BL p l e R s m args below meth c G D cy ad nL Qf (pc + 3) lv (.long (lmax x y) :: st) M o) : BL p l e R s m args below meth c G D cy ad nL Qf pc lv (.long y :: .long x :: st) M o := fun r hr H locs ls hW hS hl => va_mmax_long hO.1 hO.2.1 (hO.2.2.1.trans hl.1.symm) hO.2.2.2.1 (hO.2.2.2.2.1 _ hlk) (hO.2.2.2.2.1 _ hst) (hO.2.2.2.2.1 _ hini) (hO.2.2.2.2.1 _ hcd) (by rw [hO.2.2.2.2.2.2.2.2.2.1]; exact hd) (by rw [hO.2.2.2.2.2.2.2.2.2.1]; show _ ≤ 64 * d; omega) (Nat.zero_le _) (Nat.zero_le _) hdg (K r hr H locs ls hW hS hl)
theorem b_copy (hO : OKc p R s m args meth c G D cy ad cc own nL d rt) {idx q0 q1 n0 n1 : Nat} {sp dp n : Int32} (hlk : Cond.methodLink own idx arraycopyName ∈ lw_g) (hnat : Cond.native arraycopyName ∈ lw_g) (hst : Cond.static arraycopyName ∈ lw_g) (hini : Cond.initialized "java/lang/System" ∈ lw_g) (hq0 : isK G q0 13) (hq1 : isK G q1 13) (hn0 : G.ln q0 = n0) (hn1 : G.ln q1 = n1) (hd : 1 ≤ d) (hroom : (st.map fun v => v.category).sum ≤ 8) (hdg : decode cc pc = .ok (.invokestatic idx, 3)) (K : BL p l e R s m args below meth c G D cy ad nL Qf (pc + 3) lv st (sF M q1 (va_cpy (gA M q0) (gA M q1) sp.toNatClampNeg dp.toNatClampNeg n.toNatClampNeg)) o) : BL p l e R s m args below meth c G D cy ad nL Qf pc lv (.int n :: .int dp :: .ref (ad q1) :: .int sp :: .ref (ad q0) :: st) M (if sp < 0 ∨ dp < 0 ∨ n < 0 ∨ n0 < sp.toNatClampNeg + n.toNatClampNeg ∨ n1 < dp.toNatClampNeg + n.toNatClampNeg then none else o) := fun r hr H locs ls hW hS hl => by
  by_cases hg : sp < 0 ∨ dp < 0 ∨ n < 0 ∨ n0 < sp.toNatClampNeg + n.toNatClampNeg ∨ n1 < dp.toNatClampNeg + n.toNatClampNeg
  · rw [if_pos hg] at hr; cases hr
  · rw [if_neg hg] at hr
    simp only [not_or, Nat.not_lt] at hg
    obtain ⟨g1, g2, g3, g4, g5⟩ := hg
    have hR : R = rmL d := hO.2.2.2.2.2.2.2.2.2.1
    have hf1 : 1 ≤ R.frames := by rw [hR]; exact hd
    have hw40 : nativeFrameWords "java/lang/System" "arraycopy" 5 ≤ 40 := by decide
    have hf2 : (st.map fun v => v.category).sum + (nativeFrameWords "java/lang/System" "arraycopy" 5 + 11) ≤ R.locals := by
      rw [hR]
      show _ ≤ 64 * d
      omega
    exact va_copyi (ty := .int) hO.1 hO.2.1 (hO.2.2.1.trans hl.1.symm) hO.2.2.2.1 (hO.2.2.2.2.1 _ hlk) (hO.2.2.2.2.1 _ hnat) (hO.2.2.2.2.1 _ hst) (hO.2.2.2.2.1 _ hini) hO.2.2.2.2.2.1 hW.1 (wl_D hO.2.2.2.2.2.2.1 M) hS q0 q1 0 0 (by rw [wl_get hq0.2, cE_int hq0]) (by rw [wl_get hq1.2, cE_int hq1]) rfl rfl rfl g1 g2 g3 (by rw [hn0]; exact g4) (by rw [hn1]; exact g5) (fun _ _ => rfl) hf1 hf2 hdg (fun H1 locs1 hP _ hS1 => K r hr H1 locs1 ls ⟨by rw [wl_sF hq1] at hP; exact hP, hW.2⟩ hS1 hl)
def loopN {α : Type} (F : α → α) (z : α) : Nat → α
  | 0 => z
  | n + 1 => F (loopN F z n)
end ROWS
end
section
def LX_kd : List Nat := [11, 4, 3, 8, 13, 7, 13, 1, 13, 13, 6, 13, 13, 13, 13, 13, 2, 16, 10, 13, 13, 5, 13, 13, 13, 16, 13, 13, 13, 13, 13, 9, 13, 13, 13, 13, 13, 13, 13, 13, 13, 13, 13, 0, 13, 0, 13, 9, 13, 13, 13, 13, 13, 13, 13, 13, 13, 13, 13, 0, 13, 0, 13, 13, 13, 13, 13, 13, 13, 13, 13, 13, 13, 13, 13, 13, 13, 13, 13, 13, 13, 13, 13, 13, 13, 13, 13, 13, 13, 13]
def LX_ln : List Nat := [0, 0, 0, 0, 25, 0, 1600, 0, 6, 64, 0, 5, 5, 6, 6, 6, 0, 20, 0, 5, 61, 0, 16, 16, 16, 7, 61, 61, 5, 24, 6, 0, 6, 6, 6, 5, 5, 10, 10, 10, 6, 6, 6, 0, 1600, 0, 1600, 0, 6, 6, 6, 5, 5, 10, 10, 10, 6, 6, 6, 0, 1600, 0, 1600, 18, 18, 18, 18, 18, 18, 18, 18, 18, 18, 18, 18, 18, 18, 18, 18, 18, 18, 18, 18, 41, 41, 41, 41, 41, 41, 41]
def LX_ds : Nat → List Nat := fun c => match c with
  | 0 => [4, 0]
  | 1 => [2, 0, 0, 0, 0, 4, 5, 0]
  | 2 => [4, 0, 0]
  | 3 => [4, 2, 0]
  | 4 => [5, 4, 2]
  | 5 => [0, 4, 5, 6, 7]
  | 6 => [2, 0, 4, 5, 6, 0, 7, 8]
  | 7 => [4, 0]
  | 8 => [5, 4, 0, 0, 0, 0, 0, 0, 0]
  | 9 => [0, 0, 4, 5, 6, 0, 7, 8, 0, 9, 10, 11, 0, 12, 13, 14, 0, 15, 17]
  | 10 => [4, 5]
  | 11 => [8, 2, 2, 4, 10, 13, 19, 21, 24, 29, 30, 31, 32, 33, 0, 0, 0, 0]
  | _ => []
def LX : Lay := (fun p => LX_kd.getD p 99, LX_ds, fun p => LX_ln.getD p 0, fun p => if p = 17 then 63 else if p = 25 then 83 else 0, fun k => if k = 1 then 9 else if k = 2 then 9 else if k = 130 then 9 else if k = 257 then 0 else if k = 896 then 9 else if k = 1280 then 9 else 99, 90)
theorem LXok : LOK LX := fun c => by
  show (LX_ds c).length ≤ 128
  unfold LX_ds
  split <;> decide
def LY_kd : List Nat := [12, 13, 13, 13, 13, 13, 13, 13, 13, 13, 13, 13, 13, 13, 13, 13, 13, 13, 14, 14, 14, 13, 13, 15, 13, 13, 13, 13, 13, 13, 13, 13, 13, 13, 14, 13, 13, 13, 13, 13, 13, 13, 13, 13]
def LY_ln : List Nat := [0, 1800, 2, 12, 12, 2, 10, 2, 50, 50, 2, 12, 12, 2, 4, 4, 3200, 3200, 12, 10, 12, 20, 20, 20, 20, 20, 500, 6, 22, 110, 110, 22, 22, 1760, 500, 10, 5, 5, 61, 16, 16, 16, 287, 40]
def LY_ds : Nat → List Nat := fun c => match c with
  | 12 => [4, 0, 0, 0, 0, 0, 0, 1, 0, 0, 0, 0, 0, 0, 5, 6, 7, 8, 9, 10, 11, 12, 13, 14, 15, 16, 17, 18, 19, 20, 21, 22, 23, 0, 0, 0, 24, 25, 26, 27, 28, 0, 0, 29, 0, 0, 30, 31, 32, 33, 34, 35, 36, 0, 0, 1, 37, 38, 39, 40, 41, 0, 42, 43, 44, 45, 46, 0]
  | _ => []
def LY : Lay := (fun p => LY_kd.getD p 99, LY_ds, fun p => LY_ln.getD p 0, fun p =>  0, fun k =>  99, 44)
theorem LYok : LOK LY := fun c => by
  show (LY_ds c).length ≤ 128
  unfold LY_ds
  split <;> decide
theorem pk_lt90 {P : Nat → Prop} [DecidablePred P] {n : Nat} (h : (List.range n).all (fun p => decide (P p)) = true) {p : Nat} (hp : p < n) : P p := by
  have := List.all_eq_true.mp h p (List.mem_range.mpr hp)
  simpa using this
theorem kt_9_1 {p : Nat} (h : isK LX p 9) : isK LX (p + 1) 13 := pk_lt90 (P := fun p => LX_kd.getD p 99 = 9 → LX_kd.getD (p + 1) 99 = 13 ∧ p + 1 < 90) (n := 90) (by decide +kernel) h.2 h.1
theorem lt_9_1 {p : Nat} (h : isK LX p 9) : LX.ln (p + 1) = 6 := pk_lt90 (P := fun p => LX_kd.getD p 99 = 9 → LX_ln.getD (p + 1) 0 = 6) (n := 90) (by decide +kernel) h.2 h.1
theorem kt_9_2 {p : Nat} (h : isK LX p 9) : isK LX (p + 2) 13 := pk_lt90 (P := fun p => LX_kd.getD p 99 = 9 → LX_kd.getD (p + 2) 99 = 13 ∧ p + 2 < 90) (n := 90) (by decide +kernel) h.2 h.1
theorem lt_9_2 {p : Nat} (h : isK LX p 9) : LX.ln (p + 2) = 6 := pk_lt90 (P := fun p => LX_kd.getD p 99 = 9 → LX_ln.getD (p + 2) 0 = 6) (n := 90) (by decide +kernel) h.2 h.1
theorem kt_9_3 {p : Nat} (h : isK LX p 9) : isK LX (p + 3) 13 := pk_lt90 (P := fun p => LX_kd.getD p 99 = 9 → LX_kd.getD (p + 3) 99 = 13 ∧ p + 3 < 90) (n := 90) (by decide +kernel) h.2 h.1
theorem lt_9_3 {p : Nat} (h : isK LX p 9) : LX.ln (p + 3) = 6 := pk_lt90 (P := fun p => LX_kd.getD p 99 = 9 → LX_ln.getD (p + 3) 0 = 6) (n := 90) (by decide +kernel) h.2 h.1
theorem kt_9_4 {p : Nat} (h : isK LX p 9) : isK LX (p + 4) 13 := pk_lt90 (P := fun p => LX_kd.getD p 99 = 9 → LX_kd.getD (p + 4) 99 = 13 ∧ p + 4 < 90) (n := 90) (by decide +kernel) h.2 h.1
theorem lt_9_4 {p : Nat} (h : isK LX p 9) : LX.ln (p + 4) = 5 := pk_lt90 (P := fun p => LX_kd.getD p 99 = 9 → LX_ln.getD (p + 4) 0 = 5) (n := 90) (by decide +kernel) h.2 h.1
theorem kt_9_5 {p : Nat} (h : isK LX p 9) : isK LX (p + 5) 13 := pk_lt90 (P := fun p => LX_kd.getD p 99 = 9 → LX_kd.getD (p + 5) 99 = 13 ∧ p + 5 < 90) (n := 90) (by decide +kernel) h.2 h.1
theorem lt_9_5 {p : Nat} (h : isK LX p 9) : LX.ln (p + 5) = 5 := pk_lt90 (P := fun p => LX_kd.getD p 99 = 9 → LX_ln.getD (p + 5) 0 = 5) (n := 90) (by decide +kernel) h.2 h.1
theorem kt_9_6 {p : Nat} (h : isK LX p 9) : isK LX (p + 6) 13 := pk_lt90 (P := fun p => LX_kd.getD p 99 = 9 → LX_kd.getD (p + 6) 99 = 13 ∧ p + 6 < 90) (n := 90) (by decide +kernel) h.2 h.1
theorem lt_9_6 {p : Nat} (h : isK LX p 9) : LX.ln (p + 6) = 10 := pk_lt90 (P := fun p => LX_kd.getD p 99 = 9 → LX_ln.getD (p + 6) 0 = 10) (n := 90) (by decide +kernel) h.2 h.1
theorem kt_9_7 {p : Nat} (h : isK LX p 9) : isK LX (p + 7) 13 := pk_lt90 (P := fun p => LX_kd.getD p 99 = 9 → LX_kd.getD (p + 7) 99 = 13 ∧ p + 7 < 90) (n := 90) (by decide +kernel) h.2 h.1
theorem lt_9_7 {p : Nat} (h : isK LX p 9) : LX.ln (p + 7) = 10 := pk_lt90 (P := fun p => LX_kd.getD p 99 = 9 → LX_ln.getD (p + 7) 0 = 10) (n := 90) (by decide +kernel) h.2 h.1
theorem kt_9_8 {p : Nat} (h : isK LX p 9) : isK LX (p + 8) 13 := pk_lt90 (P := fun p => LX_kd.getD p 99 = 9 → LX_kd.getD (p + 8) 99 = 13 ∧ p + 8 < 90) (n := 90) (by decide +kernel) h.2 h.1
theorem lt_9_8 {p : Nat} (h : isK LX p 9) : LX.ln (p + 8) = 10 := pk_lt90 (P := fun p => LX_kd.getD p 99 = 9 → LX_ln.getD (p + 8) 0 = 10) (n := 90) (by decide +kernel) h.2 h.1
theorem kt_9_9 {p : Nat} (h : isK LX p 9) : isK LX (p + 9) 13 := pk_lt90 (P := fun p => LX_kd.getD p 99 = 9 → LX_kd.getD (p + 9) 99 = 13 ∧ p + 9 < 90) (n := 90) (by decide +kernel) h.2 h.1
theorem lt_9_9 {p : Nat} (h : isK LX p 9) : LX.ln (p + 9) = 6 := pk_lt90 (P := fun p => LX_kd.getD p 99 = 9 → LX_ln.getD (p + 9) 0 = 6) (n := 90) (by decide +kernel) h.2 h.1
theorem kt_9_10 {p : Nat} (h : isK LX p 9) : isK LX (p + 10) 13 := pk_lt90 (P := fun p => LX_kd.getD p 99 = 9 → LX_kd.getD (p + 10) 99 = 13 ∧ p + 10 < 90) (n := 90) (by decide +kernel) h.2 h.1
theorem lt_9_10 {p : Nat} (h : isK LX p 9) : LX.ln (p + 10) = 6 := pk_lt90 (P := fun p => LX_kd.getD p 99 = 9 → LX_ln.getD (p + 10) 0 = 6) (n := 90) (by decide +kernel) h.2 h.1
theorem kt_9_11 {p : Nat} (h : isK LX p 9) : isK LX (p + 11) 13 := pk_lt90 (P := fun p => LX_kd.getD p 99 = 9 → LX_kd.getD (p + 11) 99 = 13 ∧ p + 11 < 90) (n := 90) (by decide +kernel) h.2 h.1
theorem lt_9_11 {p : Nat} (h : isK LX p 9) : LX.ln (p + 11) = 6 := pk_lt90 (P := fun p => LX_kd.getD p 99 = 9 → LX_ln.getD (p + 11) 0 = 6) (n := 90) (by decide +kernel) h.2 h.1
theorem kt_9_12 {p : Nat} (h : isK LX p 9) : isK LX (p + 12) 0 := pk_lt90 (P := fun p => LX_kd.getD p 99 = 9 → LX_kd.getD (p + 12) 99 = 0 ∧ p + 12 < 90) (n := 90) (by decide +kernel) h.2 h.1
theorem kt_9_14 {p : Nat} (h : isK LX p 9) : isK LX (p + 14) 0 := pk_lt90 (P := fun p => LX_kd.getD p 99 = 9 → LX_kd.getD (p + 14) 99 = 0 ∧ p + 14 < 90) (n := 90) (by decide +kernel) h.2 h.1
theorem kt_0_1 {p : Nat} (h : isK LX p 0) : isK LX (p + 1) 13 := pk_lt90 (P := fun p => LX_kd.getD p 99 = 0 → LX_kd.getD (p + 1) 99 = 13 ∧ p + 1 < 90) (n := 90) (by decide +kernel) h.2 h.1
theorem lt_0_1 {p : Nat} (h : isK LX p 0) : LX.ln (p + 1) = 1600 := pk_lt90 (P := fun p => LX_kd.getD p 99 = 0 → LX_ln.getD (p + 1) 0 = 1600) (n := 90) (by decide +kernel) h.2 h.1
theorem kg_17 : ∀ j, j < 20 → isK LX (63 + j) 13 := fun _ h => pk_lt90 (P := fun j => LX_kd.getD (63 + j) 99 = 13 ∧ 63 + j < 90) (n := 20) (by decide +kernel) h
theorem kg_25 : ∀ j, j < 7 → isK LX (83 + j) 13 := fun _ h => pk_lt90 (P := fun j => LX_kd.getD (83 + j) 99 = 13 ∧ 83 + j < 90) (n := 7) (by decide +kernel) h
end
section
def okW (i : Nat) (w : Cond) : Bool := decide (lw_tbl[i]? = some w) && goodWord w
theorem okW_g {i : Nat} {w : Cond} (h : okW i w = true) : w ∈ lw_g := by
  unfold okW at h
  rw [Bool.and_eq_true] at h
  exact mem_g (List.mem_of_getElem? (of_decide_eq_true h.1)) h.2
theorem an1 {a b : Bool} (h : (a && b) = true) : a = true := (Bool.and_eq_true a b ▸ h : a = true ∧ b = true).1
theorem an2 {a b : Bool} (h : (a && b) = true) : b = true := (Bool.and_eq_true a b ▸ h : a = true ∧ b = true).2
def wdC (i : Nat) (m : MethodName) (c : ByteArray) (n : Nat) (r : Option ClassFile.FieldType) : Bool := match lw_tbl[i]? with
  | some (.code m' c' n' r') => decide (m' = m) && (decide (c'.data.toList = c.data.toList) && (decide (n' = n) && (decide (r' = r) && goodWord (.code m c n r))))
  | _ => false
theorem wdC_g {i : Nat} {m : MethodName} {c : ByteArray} {n : Nat} {r : Option ClassFile.FieldType} (h : wdC i m c n r = true) : Cond.code m c n r ∈ lw_g := by
  unfold wdC at h
  split at h
  · rename_i m' c' n' r' e
    rw [Bool.and_eq_true, Bool.and_eq_true, Bool.and_eq_true, Bool.and_eq_true] at h
    obtain ⟨h1, h2, h3, h4, h5⟩ := h
    have e1 := of_decide_eq_true h1
    have e2 : c' = c := ByteArray.ext (Array.ext' (of_decide_eq_true h2))
    have e3 := of_decide_eq_true h3
    have e4 := of_decide_eq_true h4
    subst e1 e2 e3 e4
    exact mem_g (List.mem_of_getElem? e) h5
  · cases h
def wEq (t w : Cond) : Bool := match w with
  | .code m c n r => (match t with
    | .code m' c' n' r' => decide (m' = m) && (decide (c'.data.toList = c.data.toList) && (decide (n' = n) && decide (r' = r)))
    | _ => false)
  | _ => decide (t = w)
theorem wEq_s {t w : Cond} (h : wEq t w = true) : t = w := by
  unfold wEq at h
  split at h
  · split at h
    · rw [Bool.and_eq_true, Bool.and_eq_true, Bool.and_eq_true] at h
      obtain ⟨h1, h2, h3, h4⟩ := h
      rw [of_decide_eq_true h1, ByteArray.ext (Array.ext' (of_decide_eq_true h2)), of_decide_eq_true h3, of_decide_eq_true h4]
    · cases h
  · exact of_decide_eq_true h
def pkW : List Cond → Nat → List (Nat × Cond) → Bool
  | [], _, l => l.isEmpty
  | t :: ts, n, l => match l with
    | [] => true
    | x :: r => if x.1 = n then (wEq t x.2 && goodWord x.2) && pkW ts (n + 1) r else pkW ts (n + 1) (x :: r)
theorem pkW_s : ∀ (ts : List Cond) (n : Nat) (l : List (Nat × Cond)), pkW ts n l = true → ∀ x ∈ l, x.2 ∈ ts ∧ goodWord x.2 = true
  | [], _, l, h => by
    have e : l = [] := List.isEmpty_iff.mp h
    rw [e]
    exact fun x hx => absurd hx List.not_mem_nil
  | t :: ts, n, [], _ => fun x hx => absurd hx List.not_mem_nil
  | t :: ts, n, y :: r, h => by
    have h' : (if y.1 = n then (wEq t y.2 && goodWord y.2) && pkW ts (n + 1) r else pkW ts (n + 1) (y :: r)) = true := h
    by_cases g : y.1 = n
    · rw [if_pos g, Bool.and_eq_true, Bool.and_eq_true] at h'
      obtain ⟨⟨h1, h2⟩, h3⟩ := h'
      refine List.forall_mem_cons.mpr ⟨⟨?_, h2⟩, fun x hx => ?_⟩
      · rw [wEq_s h1]
        exact List.mem_cons_self
      · have := pkW_s ts (n + 1) r h3 x hx
        exact ⟨List.mem_cons_of_mem _ this.1, this.2⟩
    · rw [if_neg g] at h'
      intro x hx
      have := pkW_s ts (n + 1) (y :: r) h' x hx
      exact ⟨List.mem_cons_of_mem _ this.1, this.2⟩
theorem pkW_i {l : List (Nat × Cond)} {i : Nat} {w : Cond} (h : pkW lw_tbl 0 l = true) (k : Nat) (e : l[k]? = some (i, w)) : w ∈ lw_g := mem_g (pkW_s lw_tbl 0 l h (i, w) (List.mem_of_getElem? e)).1 (pkW_s lw_tbl 0 l h (i, w) (List.mem_of_getElem? e)).2
def bkwl0 : List (Nat × Cond) := [(0, Cond.selects "PalmHours" ⟨"PalmHours", "begin", "()V"⟩ ⟨"PalmHours", "begin", "()V"⟩), (1, Cond.selects "PalmHours$State" ⟨"PalmHours$State", "isDue", "(ILPalmHours$Palm;)Z"⟩ ⟨"PalmHours$State", "isDue", "(ILPalmHours$Palm;)Z"⟩), (2, Cond.selects "PalmHours$Palm" ⟨"PalmHours$Palm", "valueOf", "(LPalmHours$Formula;)I"⟩ ⟨"PalmHours$Palm", "valueOf", "(LPalmHours$Formula;)I"⟩), (3, Cond.selects "PalmHours$Palm" ⟨"PalmHours$Palm", "join", "(I)V"⟩ ⟨"PalmHours$Palm", "join", "(I)V"⟩), (4, Cond.selects "PalmHours$State" ⟨"PalmHours$State", "keep", "(I)V"⟩ ⟨"PalmHours$State", "keep", "(I)V"⟩), (5, Cond.selects "PalmHours" ⟨"PalmHours", "refuse", "(I)I"⟩ ⟨"PalmHours", "refuse", "(I)I"⟩), (6, Cond.selects "PalmHours$Tokens" ⟨"PalmHours$Tokens", "isWordOrNumber", "()Z"⟩ ⟨"PalmHours$Tokens", "isWordOrNumber", "()Z"⟩), (7, Cond.selects "PalmHours$Tokens" ⟨"PalmHours$Tokens", "skipBlanks", "()V"⟩ ⟨"PalmHours$Tokens", "skipBlanks", "()V"⟩), (8, Cond.selects "PalmHours$Tokens" ⟨"PalmHours$Tokens", "readWord", "()V"⟩ ⟨"PalmHours$Tokens", "readWord", "()V"⟩), (9, Cond.selects "PalmHours$Tokens" ⟨"PalmHours$Tokens", "kindOf", "(I)I"⟩ ⟨"PalmHours$Tokens", "kindOf", "(I)I"⟩), (10, Cond.selects "PalmHours$Tokens" ⟨"PalmHours$Tokens", "readNumber", "()V"⟩ ⟨"PalmHours$Tokens", "readNumber", "()V"⟩), (11, Cond.selects "PalmHours$Reader" ⟨"PalmHours$Reader", "readStatement", "()Z"⟩ ⟨"PalmHours$Reader", "readStatement", "()Z"⟩), (12, Cond.selects "PalmHours$Reader" ⟨"PalmHours$Reader", "skipFirst", "(Z)Z"⟩ ⟨"PalmHours$Reader", "skipFirst", "(Z)Z"⟩), (13, Cond.selects "PalmHours$Reader" ⟨"PalmHours$Reader", "readThing", "()Z"⟩ ⟨"PalmHours$Reader", "readThing", "()Z"⟩), (14, Cond.selects "PalmHours$Reader" ⟨"PalmHours$Reader", "newName", "()I"⟩ ⟨"PalmHours$Reader", "newName", "()I"⟩), (15, Cond.selects "PalmHours$Reader" ⟨"PalmHours$Reader", "number", "(II)I"⟩ ⟨"PalmHours$Reader", "number", "(II)I"⟩), (16, Cond.selects "PalmHours$Reader" ⟨"PalmHours$Reader", "readCorner", "()Z"⟩ ⟨"PalmHours$Reader", "readCorner", "()Z"⟩), (17, Cond.selects "PalmHours$Reader" ⟨"PalmHours$Reader", "readRoad", "()Z"⟩ ⟨"PalmHours$Reader", "readRoad", "()Z"⟩), (18, Cond.selects "PalmHours$Reader" ⟨"PalmHours$Reader", "cornerHere", "()I"⟩ ⟨"PalmHours$Reader", "cornerHere", "()I"⟩), (19, Cond.selects "PalmHours$Reader" ⟨"PalmHours$Reader", "readPalm", "()Z"⟩ ⟨"PalmHours$Reader", "readPalm", "()Z"⟩), (20, Cond.selects "PalmHours$Reader" ⟨"PalmHours$Reader", "readDoing", "()Z"⟩ ⟨"PalmHours$Reader", "readDoing", "()Z"⟩), (21, Cond.selects "PalmHours$Phrases" ⟨"PalmHours$Phrases", "readSum", "(I)Z"⟩ ⟨"PalmHours$Phrases", "readSum", "(I)Z"⟩), (22, Cond.selects "PalmHours$Phrases" ⟨"PalmHours$Phrases", "readProduct", "(I)Z"⟩ ⟨"PalmHours$Phrases", "readProduct", "(I)Z"⟩), (23, Cond.selects "PalmHours$Phrases" ⟨"PalmHours$Phrases", "readPart", "(I)Z"⟩ ⟨"PalmHours$Phrases", "readPart", "(I)Z"⟩), (24, Cond.selects "PalmHours$Phrases" ⟨"PalmHours$Phrases", "addAndAdvance", "(I)Z"⟩ ⟨"PalmHours$Phrases", "addAndAdvance", "(I)Z"⟩), (25, Cond.selects "PalmHours$Phrases" ⟨"PalmHours$Phrases", "readPair", "(II)Z"⟩ ⟨"PalmHours$Phrases", "readPair", "(II)Z"⟩), (26, Cond.selects "PalmHours$Phrases" ⟨"PalmHours$Phrases", "goIn", "(II)Z"⟩ ⟨"PalmHours$Phrases", "goIn", "(II)Z"⟩), (27, Cond.selects "PalmHours$Phrases" ⟨"PalmHours$Phrases", "add", "(I)Z"⟩ ⟨"PalmHours$Phrases", "add", "(I)Z"⟩), (28, Cond.selects "PalmHours$Phrases" ⟨"PalmHours$Phrases", "readChoice", "(I)Z"⟩ ⟨"PalmHours$Phrases", "readChoice", "(I)Z"⟩), (29, Cond.selects "PalmHours$Phrases" ⟨"PalmHours$Phrases", "readTest", "(I)Z"⟩ ⟨"PalmHours$Phrases", "readTest", "(I)Z"⟩), (30, Cond.selects "PalmHours$Phrases" ⟨"PalmHours$Phrases", "readBoth", "(I)Z"⟩ ⟨"PalmHours$Phrases", "readBoth", "(I)Z"⟩), (31, Cond.selects "PalmHours$Phrases" ⟨"PalmHours$Phrases", "readFact", "(I)Z"⟩ ⟨"PalmHours$Phrases", "readFact", "(I)Z"⟩), (32, Cond.selects "PalmHours$Phrases" ⟨"PalmHours$Phrases", "readComparison", "(I)Z"⟩ ⟨"PalmHours$Phrases", "readComparison", "(I)Z"⟩), (33, Cond.selects "PalmHours$Phrases" ⟨"PalmHours$Phrases", "comparisonStep", "()I"⟩ ⟨"PalmHours$Phrases", "comparisonStep", "()I"⟩), (34, Cond.selects "PalmHours$Phrases" ⟨"PalmHours$Phrases", "productStep", "()I"⟩ ⟨"PalmHours$Phrases", "productStep", "()I"⟩), (35, Cond.selects "PalmHours$Phrases" ⟨"PalmHours$Phrases", "sumStep", "()I"⟩ ⟨"PalmHours$Phrases", "sumStep", "()I"⟩), (36, Cond.selects "PalmHours$Reader" ⟨"PalmHours$Reader", "readPass", "()Z"⟩ ⟨"PalmHours$Reader", "readPass", "()Z"⟩), (37, Cond.selects "PalmHours" ⟨"PalmHours", "hourAt", "(I)I"⟩ ⟨"PalmHours", "hourAt", "(I)I"⟩), (38, Cond.selects "PalmHours" ⟨"PalmHours", "lookAt", "(I)V"⟩ ⟨"PalmHours", "lookAt", "(I)V"⟩), (39, Cond.selects "PalmHours" ⟨"PalmHours", "isBeyond", "(I)Z"⟩ ⟨"PalmHours", "isBeyond", "(I)Z"⟩), (40, Cond.selects "PalmHours" ⟨"PalmHours", "foresee", "(I[II)I"⟩ ⟨"PalmHours", "foresee", "(I[II)I"⟩), (41, Cond.selects "PalmHours" ⟨"PalmHours", "planNothing", "(II)Z"⟩ ⟨"PalmHours", "planNothing", "(II)Z"⟩), (42, Cond.selects "PalmHours" ⟨"PalmHours", "doesWithout", "(IIII)Z"⟩ ⟨"PalmHours", "doesWithout", "(IIII)Z"⟩), (43, Cond.selects "PalmHours" ⟨"PalmHours", "doesAll", "(IIII)Z"⟩ ⟨"PalmHours", "doesAll", "(IIII)Z"⟩), (44, Cond.selects "PalmHours" ⟨"PalmHours", "tellsWithin", "(III)Z"⟩ ⟨"PalmHours", "tellsWithin", "(III)Z"⟩), (45, Cond.selects "PalmHours" ⟨"PalmHours", "planNeeded", "(II)Z"⟩ ⟨"PalmHours", "planNeeded", "(II)Z"⟩), (46, Cond.selects "PalmHours" ⟨"PalmHours", "findGiving", "(III)I"⟩ ⟨"PalmHours", "findGiving", "(III)I"⟩), (47, Cond.selects "PalmHours" ⟨"PalmHours", "countPlanned", "()I"⟩ ⟨"PalmHours", "countPlanned", "()I"⟩), (48, Cond.selects "PalmHours" ⟨"PalmHours", "planAnywhere", "(II)Z"⟩ ⟨"PalmHours", "planAnywhere", "(II)Z"⟩), (49, Cond.selects "PalmHours" ⟨"PalmHours", "countStaying", "(II)I"⟩ ⟨"PalmHours", "countStaying", "(II)I"⟩), (50, Cond.selects "PalmHours" ⟨"PalmHours", "countRowsOfOne", "(I)J"⟩ ⟨"PalmHours", "countRowsOfOne", "(I)J"⟩), (51, Cond.selects "PalmHours" ⟨"PalmHours", "countRowsWithout", "()J"⟩ ⟨"PalmHours", "countRowsWithout", "()J"⟩), (52, Cond.selects "PalmHours" ⟨"PalmHours", "countRowsOfTwo", "(I)J"⟩ ⟨"PalmHours", "countRowsOfTwo", "(I)J"⟩), (53, Cond.selects "PalmHours$Walks" ⟨"PalmHours$Walks", "shorten", "(III)V"⟩ ⟨"PalmHours$Walks", "shorten", "(III)V"⟩), (54, Cond.selects "PalmHours" ⟨"PalmHours", "findHeld", "(I)I"⟩ ⟨"PalmHours", "findHeld", "(I)I"⟩), (55, Cond.selects "PalmHours" ⟨"PalmHours", "letPass", "()I"⟩ ⟨"PalmHours", "letPass", "()I"⟩), (56, Cond.selects "PalmHours" ⟨"PalmHours", "draw", "(I)I"⟩ ⟨"PalmHours", "draw", "(I)I"⟩), (57, Cond.selects "PalmHours" ⟨"PalmHours", "putByAct", "(II)I"⟩ ⟨"PalmHours", "putByAct", "(II)I"⟩), (58, Cond.selects "PalmHours$State" ⟨"PalmHours$State", "imageSize", "()I"⟩ ⟨"PalmHours$State", "imageSize", "()I"⟩), (59, Cond.selects "PalmHoursModel" ⟨"PalmHoursModel", "refuses", "(I)I"⟩ ⟨"PalmHoursModel", "refuses", "(I)I"⟩), (60, Cond.selects "PalmHoursModel" ⟨"PalmHoursModel", "put", "(I)V"⟩ ⟨"PalmHoursModel", "put", "(I)V"⟩), (61, Cond.selects "PalmHoursModel" ⟨"PalmHoursModel", "at", "(III)I"⟩ ⟨"PalmHoursModel", "at", "(III)I"⟩), (62, Cond.selects "PalmHoursModel" ⟨"PalmHoursModel", "ahead", "()V"⟩ ⟨"PalmHoursModel", "ahead", "()V"⟩), (63, Cond.selects "PalmHoursModel" ⟨"PalmHoursModel", "statement", "()V"⟩ ⟨"PalmHoursModel", "statement", "()V"⟩), (64, Cond.selects "PalmHoursModel" ⟨"PalmHoursModel", "lex", "()V"⟩ ⟨"PalmHoursModel", "lex", "()V"⟩), (65, Cond.selects "PalmHoursModel" ⟨"PalmHoursModel", "blame", "(II)V"⟩ ⟨"PalmHoursModel", "blame", "(II)V"⟩), (66, Cond.selects "PalmHoursModel" ⟨"PalmHoursModel", "isWord", "(J)Z"⟩ ⟨"PalmHoursModel", "isWord", "(J)Z"⟩), (67, Cond.selects "PalmHoursModel" ⟨"PalmHoursModel", "thinging", "()V"⟩ ⟨"PalmHoursModel", "thinging", "()V"⟩), (68, Cond.selects "PalmHoursModel" ⟨"PalmHoursModel", "counts", "(Z)Z"⟩ ⟨"PalmHoursModel", "counts", "(Z)Z"⟩), (69, Cond.selects "PalmHoursModel" ⟨"PalmHoursModel", "fresh", "()J"⟩ ⟨"PalmHoursModel", "fresh", "()J"⟩), (70, Cond.selects "PalmHoursModel" ⟨"PalmHoursModel", "isOwn", "(J)Z"⟩ ⟨"PalmHoursModel", "isOwn", "(J)Z"⟩), (71, Cond.selects "PalmHoursModel" ⟨"PalmHoursModel", "named", "(IJ)I"⟩ ⟨"PalmHoursModel", "named", "(IJ)I"⟩), (72, Cond.selects "PalmHoursModel" ⟨"PalmHoursModel", "manyOf", "(II)I"⟩ ⟨"PalmHoursModel", "manyOf", "(II)I"⟩), (73, Cond.selects "PalmHoursModel" ⟨"PalmHoursModel", "nameOf", "(III)J"⟩ ⟨"PalmHoursModel", "nameOf", "(III)J"⟩), (74, Cond.selects "PalmHoursModel" ⟨"PalmHoursModel", "must", "(J)V"⟩ ⟨"PalmHoursModel", "must", "(J)V"⟩), (75, Cond.selects "PalmHoursModel" ⟨"PalmHoursModel", "number", "(II)I"⟩ ⟨"PalmHoursModel", "number", "(II)I"⟩), (76, Cond.selects "PalmHoursModel" ⟨"PalmHoursModel", "cornering", "()V"⟩ ⟨"PalmHoursModel", "cornering", "()V"⟩), (77, Cond.selects "PalmHoursModel" ⟨"PalmHoursModel", "roading", "()V"⟩ ⟨"PalmHoursModel", "roading", "()V"⟩), (78, Cond.selects "PalmHoursModel" ⟨"PalmHoursModel", "knownBut", "(II)I"⟩ ⟨"PalmHoursModel", "knownBut", "(II)I"⟩), (79, Cond.selects "PalmHoursModel" ⟨"PalmHoursModel", "palming", "()V"⟩ ⟨"PalmHoursModel", "palming", "()V"⟩), (80, Cond.selects "PalmHoursModel" ⟨"PalmHoursModel", "doings", "()V"⟩ ⟨"PalmHoursModel", "doings", "()V"⟩), (81, Cond.selects "PalmHoursModel" ⟨"PalmHoursModel", "reading", "(I)V"⟩ ⟨"PalmHoursModel", "reading", "(I)V"⟩), (82, Cond.selects "PalmHoursModel" ⟨"PalmHoursModel", "reads", "(Z)V"⟩ ⟨"PalmHoursModel", "reads", "(Z)V"⟩), (83, Cond.selects "PalmHoursModel" ⟨"PalmHoursModel", "pushes", "(I)V"⟩ ⟨"PalmHoursModel", "pushes", "(I)V"⟩), (84, Cond.selects "PalmHoursModel" ⟨"PalmHoursModel", "operand", "()Z"⟩ ⟨"PalmHoursModel", "operand", "()Z"⟩), (85, Cond.selects "PalmHoursModel" ⟨"PalmHoursModel", "holdsBack", "(I)V"⟩ ⟨"PalmHoursModel", "holdsBack", "(I)V"⟩), (86, Cond.selects "PalmHoursModel" ⟨"PalmHoursModel", "isSign", "(I)Z"⟩ ⟨"PalmHoursModel", "isSign", "(I)Z"⟩), (87, Cond.selects "PalmHoursModel" ⟨"PalmHoursModel", "opens", "(I)V"⟩ ⟨"PalmHoursModel", "opens", "(I)V"⟩), (88, Cond.selects "PalmHoursModel" ⟨"PalmHoursModel", "add", "(II)V"⟩ ⟨"PalmHoursModel", "add", "(II)V"⟩), (89, Cond.selects "PalmHoursModel" ⟨"PalmHoursModel", "goesOn", "()Z"⟩ ⟨"PalmHoursModel", "goesOn", "()Z"⟩), (90, Cond.selects "PalmHoursModel" ⟨"PalmHoursModel", "joins", "(I)V"⟩ ⟨"PalmHoursModel", "joins", "(I)V"⟩), (91, Cond.selects "PalmHoursModel" ⟨"PalmHoursModel", "passing", "()V"⟩ ⟨"PalmHoursModel", "passing", "()V"⟩), (92, Cond.selects "PalmHoursModel" ⟨"PalmHoursModel", "finishes", "(I)V"⟩ ⟨"PalmHoursModel", "finishes", "(I)V"⟩), (93, Cond.selects "PalmHoursModel" ⟨"PalmHoursModel", "must", "(I)V"⟩ ⟨"PalmHoursModel", "must", "(I)V"⟩), (94, Cond.selects "PalmHoursModel" ⟨"PalmHoursModel", "measures", "()V"⟩ ⟨"PalmHoursModel", "measures", "()V"⟩), (95, Cond.selects "PalmHoursModel" ⟨"PalmHoursModel", "begin", "()V"⟩ ⟨"PalmHoursModel", "begin", "()V"⟩)]
theorem bkw0 : pkW lw_tbl 0 bkwl0 = true := by decide +kernel
theorem w0 : Cond.selects "PalmHours" ⟨"PalmHours", "begin", "()V"⟩ ⟨"PalmHours", "begin", "()V"⟩ ∈ lw_g := pkW_i bkw0 0 rfl
theorem w1 : Cond.selects "PalmHours$State" ⟨"PalmHours$State", "isDue", "(ILPalmHours$Palm;)Z"⟩ ⟨"PalmHours$State", "isDue", "(ILPalmHours$Palm;)Z"⟩ ∈ lw_g := pkW_i bkw0 1 rfl
theorem w2 : Cond.selects "PalmHours$Palm" ⟨"PalmHours$Palm", "valueOf", "(LPalmHours$Formula;)I"⟩ ⟨"PalmHours$Palm", "valueOf", "(LPalmHours$Formula;)I"⟩ ∈ lw_g := pkW_i bkw0 2 rfl
theorem w3 : Cond.selects "PalmHours$Palm" ⟨"PalmHours$Palm", "join", "(I)V"⟩ ⟨"PalmHours$Palm", "join", "(I)V"⟩ ∈ lw_g := pkW_i bkw0 3 rfl
theorem w4 : Cond.selects "PalmHours$State" ⟨"PalmHours$State", "keep", "(I)V"⟩ ⟨"PalmHours$State", "keep", "(I)V"⟩ ∈ lw_g := pkW_i bkw0 4 rfl
theorem w5 : Cond.selects "PalmHours" ⟨"PalmHours", "refuse", "(I)I"⟩ ⟨"PalmHours", "refuse", "(I)I"⟩ ∈ lw_g := pkW_i bkw0 5 rfl
theorem w6 : Cond.selects "PalmHours$Tokens" ⟨"PalmHours$Tokens", "isWordOrNumber", "()Z"⟩ ⟨"PalmHours$Tokens", "isWordOrNumber", "()Z"⟩ ∈ lw_g := pkW_i bkw0 6 rfl
theorem w7 : Cond.selects "PalmHours$Tokens" ⟨"PalmHours$Tokens", "skipBlanks", "()V"⟩ ⟨"PalmHours$Tokens", "skipBlanks", "()V"⟩ ∈ lw_g := pkW_i bkw0 7 rfl
theorem w8 : Cond.selects "PalmHours$Tokens" ⟨"PalmHours$Tokens", "readWord", "()V"⟩ ⟨"PalmHours$Tokens", "readWord", "()V"⟩ ∈ lw_g := pkW_i bkw0 8 rfl
theorem w9 : Cond.selects "PalmHours$Tokens" ⟨"PalmHours$Tokens", "kindOf", "(I)I"⟩ ⟨"PalmHours$Tokens", "kindOf", "(I)I"⟩ ∈ lw_g := pkW_i bkw0 9 rfl
theorem w10 : Cond.selects "PalmHours$Tokens" ⟨"PalmHours$Tokens", "readNumber", "()V"⟩ ⟨"PalmHours$Tokens", "readNumber", "()V"⟩ ∈ lw_g := pkW_i bkw0 10 rfl
theorem w11 : Cond.selects "PalmHours$Reader" ⟨"PalmHours$Reader", "readStatement", "()Z"⟩ ⟨"PalmHours$Reader", "readStatement", "()Z"⟩ ∈ lw_g := pkW_i bkw0 11 rfl
theorem w12 : Cond.selects "PalmHours$Reader" ⟨"PalmHours$Reader", "skipFirst", "(Z)Z"⟩ ⟨"PalmHours$Reader", "skipFirst", "(Z)Z"⟩ ∈ lw_g := pkW_i bkw0 12 rfl
theorem w13 : Cond.selects "PalmHours$Reader" ⟨"PalmHours$Reader", "readThing", "()Z"⟩ ⟨"PalmHours$Reader", "readThing", "()Z"⟩ ∈ lw_g := pkW_i bkw0 13 rfl
theorem w14 : Cond.selects "PalmHours$Reader" ⟨"PalmHours$Reader", "newName", "()I"⟩ ⟨"PalmHours$Reader", "newName", "()I"⟩ ∈ lw_g := pkW_i bkw0 14 rfl
theorem w15 : Cond.selects "PalmHours$Reader" ⟨"PalmHours$Reader", "number", "(II)I"⟩ ⟨"PalmHours$Reader", "number", "(II)I"⟩ ∈ lw_g := pkW_i bkw0 15 rfl
theorem w16 : Cond.selects "PalmHours$Reader" ⟨"PalmHours$Reader", "readCorner", "()Z"⟩ ⟨"PalmHours$Reader", "readCorner", "()Z"⟩ ∈ lw_g := pkW_i bkw0 16 rfl
theorem w17 : Cond.selects "PalmHours$Reader" ⟨"PalmHours$Reader", "readRoad", "()Z"⟩ ⟨"PalmHours$Reader", "readRoad", "()Z"⟩ ∈ lw_g := pkW_i bkw0 17 rfl
theorem w18 : Cond.selects "PalmHours$Reader" ⟨"PalmHours$Reader", "cornerHere", "()I"⟩ ⟨"PalmHours$Reader", "cornerHere", "()I"⟩ ∈ lw_g := pkW_i bkw0 18 rfl
theorem w19 : Cond.selects "PalmHours$Reader" ⟨"PalmHours$Reader", "readPalm", "()Z"⟩ ⟨"PalmHours$Reader", "readPalm", "()Z"⟩ ∈ lw_g := pkW_i bkw0 19 rfl
theorem w20 : Cond.selects "PalmHours$Reader" ⟨"PalmHours$Reader", "readDoing", "()Z"⟩ ⟨"PalmHours$Reader", "readDoing", "()Z"⟩ ∈ lw_g := pkW_i bkw0 20 rfl
theorem w21 : Cond.selects "PalmHours$Phrases" ⟨"PalmHours$Phrases", "readSum", "(I)Z"⟩ ⟨"PalmHours$Phrases", "readSum", "(I)Z"⟩ ∈ lw_g := pkW_i bkw0 21 rfl
theorem w22 : Cond.selects "PalmHours$Phrases" ⟨"PalmHours$Phrases", "readProduct", "(I)Z"⟩ ⟨"PalmHours$Phrases", "readProduct", "(I)Z"⟩ ∈ lw_g := pkW_i bkw0 22 rfl
theorem w23 : Cond.selects "PalmHours$Phrases" ⟨"PalmHours$Phrases", "readPart", "(I)Z"⟩ ⟨"PalmHours$Phrases", "readPart", "(I)Z"⟩ ∈ lw_g := pkW_i bkw0 23 rfl
theorem w24 : Cond.selects "PalmHours$Phrases" ⟨"PalmHours$Phrases", "addAndAdvance", "(I)Z"⟩ ⟨"PalmHours$Phrases", "addAndAdvance", "(I)Z"⟩ ∈ lw_g := pkW_i bkw0 24 rfl
theorem w25 : Cond.selects "PalmHours$Phrases" ⟨"PalmHours$Phrases", "readPair", "(II)Z"⟩ ⟨"PalmHours$Phrases", "readPair", "(II)Z"⟩ ∈ lw_g := pkW_i bkw0 25 rfl
theorem w26 : Cond.selects "PalmHours$Phrases" ⟨"PalmHours$Phrases", "goIn", "(II)Z"⟩ ⟨"PalmHours$Phrases", "goIn", "(II)Z"⟩ ∈ lw_g := pkW_i bkw0 26 rfl
theorem w27 : Cond.selects "PalmHours$Phrases" ⟨"PalmHours$Phrases", "add", "(I)Z"⟩ ⟨"PalmHours$Phrases", "add", "(I)Z"⟩ ∈ lw_g := pkW_i bkw0 27 rfl
theorem w28 : Cond.selects "PalmHours$Phrases" ⟨"PalmHours$Phrases", "readChoice", "(I)Z"⟩ ⟨"PalmHours$Phrases", "readChoice", "(I)Z"⟩ ∈ lw_g := pkW_i bkw0 28 rfl
theorem w29 : Cond.selects "PalmHours$Phrases" ⟨"PalmHours$Phrases", "readTest", "(I)Z"⟩ ⟨"PalmHours$Phrases", "readTest", "(I)Z"⟩ ∈ lw_g := pkW_i bkw0 29 rfl
theorem w30 : Cond.selects "PalmHours$Phrases" ⟨"PalmHours$Phrases", "readBoth", "(I)Z"⟩ ⟨"PalmHours$Phrases", "readBoth", "(I)Z"⟩ ∈ lw_g := pkW_i bkw0 30 rfl
theorem w31 : Cond.selects "PalmHours$Phrases" ⟨"PalmHours$Phrases", "readFact", "(I)Z"⟩ ⟨"PalmHours$Phrases", "readFact", "(I)Z"⟩ ∈ lw_g := pkW_i bkw0 31 rfl
theorem w32 : Cond.selects "PalmHours$Phrases" ⟨"PalmHours$Phrases", "readComparison", "(I)Z"⟩ ⟨"PalmHours$Phrases", "readComparison", "(I)Z"⟩ ∈ lw_g := pkW_i bkw0 32 rfl
theorem w33 : Cond.selects "PalmHours$Phrases" ⟨"PalmHours$Phrases", "comparisonStep", "()I"⟩ ⟨"PalmHours$Phrases", "comparisonStep", "()I"⟩ ∈ lw_g := pkW_i bkw0 33 rfl
theorem w34 : Cond.selects "PalmHours$Phrases" ⟨"PalmHours$Phrases", "productStep", "()I"⟩ ⟨"PalmHours$Phrases", "productStep", "()I"⟩ ∈ lw_g := pkW_i bkw0 34 rfl
theorem w35 : Cond.selects "PalmHours$Phrases" ⟨"PalmHours$Phrases", "sumStep", "()I"⟩ ⟨"PalmHours$Phrases", "sumStep", "()I"⟩ ∈ lw_g := pkW_i bkw0 35 rfl
theorem w36 : Cond.selects "PalmHours$Reader" ⟨"PalmHours$Reader", "readPass", "()Z"⟩ ⟨"PalmHours$Reader", "readPass", "()Z"⟩ ∈ lw_g := pkW_i bkw0 36 rfl
theorem w37 : Cond.selects "PalmHours" ⟨"PalmHours", "hourAt", "(I)I"⟩ ⟨"PalmHours", "hourAt", "(I)I"⟩ ∈ lw_g := pkW_i bkw0 37 rfl
theorem w38 : Cond.selects "PalmHours" ⟨"PalmHours", "lookAt", "(I)V"⟩ ⟨"PalmHours", "lookAt", "(I)V"⟩ ∈ lw_g := pkW_i bkw0 38 rfl
theorem w39 : Cond.selects "PalmHours" ⟨"PalmHours", "isBeyond", "(I)Z"⟩ ⟨"PalmHours", "isBeyond", "(I)Z"⟩ ∈ lw_g := pkW_i bkw0 39 rfl
theorem w40 : Cond.selects "PalmHours" ⟨"PalmHours", "foresee", "(I[II)I"⟩ ⟨"PalmHours", "foresee", "(I[II)I"⟩ ∈ lw_g := pkW_i bkw0 40 rfl
theorem w41 : Cond.selects "PalmHours" ⟨"PalmHours", "planNothing", "(II)Z"⟩ ⟨"PalmHours", "planNothing", "(II)Z"⟩ ∈ lw_g := pkW_i bkw0 41 rfl
theorem w42 : Cond.selects "PalmHours" ⟨"PalmHours", "doesWithout", "(IIII)Z"⟩ ⟨"PalmHours", "doesWithout", "(IIII)Z"⟩ ∈ lw_g := pkW_i bkw0 42 rfl
theorem w43 : Cond.selects "PalmHours" ⟨"PalmHours", "doesAll", "(IIII)Z"⟩ ⟨"PalmHours", "doesAll", "(IIII)Z"⟩ ∈ lw_g := pkW_i bkw0 43 rfl
theorem w44 : Cond.selects "PalmHours" ⟨"PalmHours", "tellsWithin", "(III)Z"⟩ ⟨"PalmHours", "tellsWithin", "(III)Z"⟩ ∈ lw_g := pkW_i bkw0 44 rfl
theorem w45 : Cond.selects "PalmHours" ⟨"PalmHours", "planNeeded", "(II)Z"⟩ ⟨"PalmHours", "planNeeded", "(II)Z"⟩ ∈ lw_g := pkW_i bkw0 45 rfl
theorem w46 : Cond.selects "PalmHours" ⟨"PalmHours", "findGiving", "(III)I"⟩ ⟨"PalmHours", "findGiving", "(III)I"⟩ ∈ lw_g := pkW_i bkw0 46 rfl
theorem w47 : Cond.selects "PalmHours" ⟨"PalmHours", "countPlanned", "()I"⟩ ⟨"PalmHours", "countPlanned", "()I"⟩ ∈ lw_g := pkW_i bkw0 47 rfl
theorem w48 : Cond.selects "PalmHours" ⟨"PalmHours", "planAnywhere", "(II)Z"⟩ ⟨"PalmHours", "planAnywhere", "(II)Z"⟩ ∈ lw_g := pkW_i bkw0 48 rfl
theorem w49 : Cond.selects "PalmHours" ⟨"PalmHours", "countStaying", "(II)I"⟩ ⟨"PalmHours", "countStaying", "(II)I"⟩ ∈ lw_g := pkW_i bkw0 49 rfl
theorem w50 : Cond.selects "PalmHours" ⟨"PalmHours", "countRowsOfOne", "(I)J"⟩ ⟨"PalmHours", "countRowsOfOne", "(I)J"⟩ ∈ lw_g := pkW_i bkw0 50 rfl
theorem w51 : Cond.selects "PalmHours" ⟨"PalmHours", "countRowsWithout", "()J"⟩ ⟨"PalmHours", "countRowsWithout", "()J"⟩ ∈ lw_g := pkW_i bkw0 51 rfl
theorem w52 : Cond.selects "PalmHours" ⟨"PalmHours", "countRowsOfTwo", "(I)J"⟩ ⟨"PalmHours", "countRowsOfTwo", "(I)J"⟩ ∈ lw_g := pkW_i bkw0 52 rfl
theorem w53 : Cond.selects "PalmHours$Walks" ⟨"PalmHours$Walks", "shorten", "(III)V"⟩ ⟨"PalmHours$Walks", "shorten", "(III)V"⟩ ∈ lw_g := pkW_i bkw0 53 rfl
theorem w54 : Cond.selects "PalmHours" ⟨"PalmHours", "findHeld", "(I)I"⟩ ⟨"PalmHours", "findHeld", "(I)I"⟩ ∈ lw_g := pkW_i bkw0 54 rfl
theorem w55 : Cond.selects "PalmHours" ⟨"PalmHours", "letPass", "()I"⟩ ⟨"PalmHours", "letPass", "()I"⟩ ∈ lw_g := pkW_i bkw0 55 rfl
theorem w56 : Cond.selects "PalmHours" ⟨"PalmHours", "draw", "(I)I"⟩ ⟨"PalmHours", "draw", "(I)I"⟩ ∈ lw_g := pkW_i bkw0 56 rfl
theorem w57 : Cond.selects "PalmHours" ⟨"PalmHours", "putByAct", "(II)I"⟩ ⟨"PalmHours", "putByAct", "(II)I"⟩ ∈ lw_g := pkW_i bkw0 57 rfl
theorem w58 : Cond.selects "PalmHours$State" ⟨"PalmHours$State", "imageSize", "()I"⟩ ⟨"PalmHours$State", "imageSize", "()I"⟩ ∈ lw_g := pkW_i bkw0 58 rfl
theorem w59 : Cond.selects "PalmHoursModel" ⟨"PalmHoursModel", "refuses", "(I)I"⟩ ⟨"PalmHoursModel", "refuses", "(I)I"⟩ ∈ lw_g := pkW_i bkw0 59 rfl
theorem w60 : Cond.selects "PalmHoursModel" ⟨"PalmHoursModel", "put", "(I)V"⟩ ⟨"PalmHoursModel", "put", "(I)V"⟩ ∈ lw_g := pkW_i bkw0 60 rfl
theorem w61 : Cond.selects "PalmHoursModel" ⟨"PalmHoursModel", "at", "(III)I"⟩ ⟨"PalmHoursModel", "at", "(III)I"⟩ ∈ lw_g := pkW_i bkw0 61 rfl
theorem w62 : Cond.selects "PalmHoursModel" ⟨"PalmHoursModel", "ahead", "()V"⟩ ⟨"PalmHoursModel", "ahead", "()V"⟩ ∈ lw_g := pkW_i bkw0 62 rfl
theorem w63 : Cond.selects "PalmHoursModel" ⟨"PalmHoursModel", "statement", "()V"⟩ ⟨"PalmHoursModel", "statement", "()V"⟩ ∈ lw_g := pkW_i bkw0 63 rfl
theorem w64 : Cond.selects "PalmHoursModel" ⟨"PalmHoursModel", "lex", "()V"⟩ ⟨"PalmHoursModel", "lex", "()V"⟩ ∈ lw_g := pkW_i bkw0 64 rfl
theorem w65 : Cond.selects "PalmHoursModel" ⟨"PalmHoursModel", "blame", "(II)V"⟩ ⟨"PalmHoursModel", "blame", "(II)V"⟩ ∈ lw_g := pkW_i bkw0 65 rfl
theorem w66 : Cond.selects "PalmHoursModel" ⟨"PalmHoursModel", "isWord", "(J)Z"⟩ ⟨"PalmHoursModel", "isWord", "(J)Z"⟩ ∈ lw_g := pkW_i bkw0 66 rfl
theorem w67 : Cond.selects "PalmHoursModel" ⟨"PalmHoursModel", "thinging", "()V"⟩ ⟨"PalmHoursModel", "thinging", "()V"⟩ ∈ lw_g := pkW_i bkw0 67 rfl
theorem w68 : Cond.selects "PalmHoursModel" ⟨"PalmHoursModel", "counts", "(Z)Z"⟩ ⟨"PalmHoursModel", "counts", "(Z)Z"⟩ ∈ lw_g := pkW_i bkw0 68 rfl
theorem w69 : Cond.selects "PalmHoursModel" ⟨"PalmHoursModel", "fresh", "()J"⟩ ⟨"PalmHoursModel", "fresh", "()J"⟩ ∈ lw_g := pkW_i bkw0 69 rfl
theorem w70 : Cond.selects "PalmHoursModel" ⟨"PalmHoursModel", "isOwn", "(J)Z"⟩ ⟨"PalmHoursModel", "isOwn", "(J)Z"⟩ ∈ lw_g := pkW_i bkw0 70 rfl
theorem w71 : Cond.selects "PalmHoursModel" ⟨"PalmHoursModel", "named", "(IJ)I"⟩ ⟨"PalmHoursModel", "named", "(IJ)I"⟩ ∈ lw_g := pkW_i bkw0 71 rfl
theorem w72 : Cond.selects "PalmHoursModel" ⟨"PalmHoursModel", "manyOf", "(II)I"⟩ ⟨"PalmHoursModel", "manyOf", "(II)I"⟩ ∈ lw_g := pkW_i bkw0 72 rfl
theorem w73 : Cond.selects "PalmHoursModel" ⟨"PalmHoursModel", "nameOf", "(III)J"⟩ ⟨"PalmHoursModel", "nameOf", "(III)J"⟩ ∈ lw_g := pkW_i bkw0 73 rfl
theorem w74 : Cond.selects "PalmHoursModel" ⟨"PalmHoursModel", "must", "(J)V"⟩ ⟨"PalmHoursModel", "must", "(J)V"⟩ ∈ lw_g := pkW_i bkw0 74 rfl
theorem w75 : Cond.selects "PalmHoursModel" ⟨"PalmHoursModel", "number", "(II)I"⟩ ⟨"PalmHoursModel", "number", "(II)I"⟩ ∈ lw_g := pkW_i bkw0 75 rfl
theorem w76 : Cond.selects "PalmHoursModel" ⟨"PalmHoursModel", "cornering", "()V"⟩ ⟨"PalmHoursModel", "cornering", "()V"⟩ ∈ lw_g := pkW_i bkw0 76 rfl
theorem w77 : Cond.selects "PalmHoursModel" ⟨"PalmHoursModel", "roading", "()V"⟩ ⟨"PalmHoursModel", "roading", "()V"⟩ ∈ lw_g := pkW_i bkw0 77 rfl
theorem w78 : Cond.selects "PalmHoursModel" ⟨"PalmHoursModel", "knownBut", "(II)I"⟩ ⟨"PalmHoursModel", "knownBut", "(II)I"⟩ ∈ lw_g := pkW_i bkw0 78 rfl
theorem w79 : Cond.selects "PalmHoursModel" ⟨"PalmHoursModel", "palming", "()V"⟩ ⟨"PalmHoursModel", "palming", "()V"⟩ ∈ lw_g := pkW_i bkw0 79 rfl
theorem w80 : Cond.selects "PalmHoursModel" ⟨"PalmHoursModel", "doings", "()V"⟩ ⟨"PalmHoursModel", "doings", "()V"⟩ ∈ lw_g := pkW_i bkw0 80 rfl
theorem w81 : Cond.selects "PalmHoursModel" ⟨"PalmHoursModel", "reading", "(I)V"⟩ ⟨"PalmHoursModel", "reading", "(I)V"⟩ ∈ lw_g := pkW_i bkw0 81 rfl
theorem w82 : Cond.selects "PalmHoursModel" ⟨"PalmHoursModel", "reads", "(Z)V"⟩ ⟨"PalmHoursModel", "reads", "(Z)V"⟩ ∈ lw_g := pkW_i bkw0 82 rfl
theorem w83 : Cond.selects "PalmHoursModel" ⟨"PalmHoursModel", "pushes", "(I)V"⟩ ⟨"PalmHoursModel", "pushes", "(I)V"⟩ ∈ lw_g := pkW_i bkw0 83 rfl
theorem w84 : Cond.selects "PalmHoursModel" ⟨"PalmHoursModel", "operand", "()Z"⟩ ⟨"PalmHoursModel", "operand", "()Z"⟩ ∈ lw_g := pkW_i bkw0 84 rfl
theorem w85 : Cond.selects "PalmHoursModel" ⟨"PalmHoursModel", "holdsBack", "(I)V"⟩ ⟨"PalmHoursModel", "holdsBack", "(I)V"⟩ ∈ lw_g := pkW_i bkw0 85 rfl
theorem w86 : Cond.selects "PalmHoursModel" ⟨"PalmHoursModel", "isSign", "(I)Z"⟩ ⟨"PalmHoursModel", "isSign", "(I)Z"⟩ ∈ lw_g := pkW_i bkw0 86 rfl
theorem w87 : Cond.selects "PalmHoursModel" ⟨"PalmHoursModel", "opens", "(I)V"⟩ ⟨"PalmHoursModel", "opens", "(I)V"⟩ ∈ lw_g := pkW_i bkw0 87 rfl
theorem w88 : Cond.selects "PalmHoursModel" ⟨"PalmHoursModel", "add", "(II)V"⟩ ⟨"PalmHoursModel", "add", "(II)V"⟩ ∈ lw_g := pkW_i bkw0 88 rfl
theorem w89 : Cond.selects "PalmHoursModel" ⟨"PalmHoursModel", "goesOn", "()Z"⟩ ⟨"PalmHoursModel", "goesOn", "()Z"⟩ ∈ lw_g := pkW_i bkw0 89 rfl
theorem w90 : Cond.selects "PalmHoursModel" ⟨"PalmHoursModel", "joins", "(I)V"⟩ ⟨"PalmHoursModel", "joins", "(I)V"⟩ ∈ lw_g := pkW_i bkw0 90 rfl
theorem w91 : Cond.selects "PalmHoursModel" ⟨"PalmHoursModel", "passing", "()V"⟩ ⟨"PalmHoursModel", "passing", "()V"⟩ ∈ lw_g := pkW_i bkw0 91 rfl
theorem w92 : Cond.selects "PalmHoursModel" ⟨"PalmHoursModel", "finishes", "(I)V"⟩ ⟨"PalmHoursModel", "finishes", "(I)V"⟩ ∈ lw_g := pkW_i bkw0 92 rfl
theorem w93 : Cond.selects "PalmHoursModel" ⟨"PalmHoursModel", "must", "(I)V"⟩ ⟨"PalmHoursModel", "must", "(I)V"⟩ ∈ lw_g := pkW_i bkw0 93 rfl
theorem w94 : Cond.selects "PalmHoursModel" ⟨"PalmHoursModel", "measures", "()V"⟩ ⟨"PalmHoursModel", "measures", "()V"⟩ ∈ lw_g := pkW_i bkw0 94 rfl
theorem w95 : Cond.selects "PalmHoursModel" ⟨"PalmHoursModel", "begin", "()V"⟩ ⟨"PalmHoursModel", "begin", "()V"⟩ ∈ lw_g := pkW_i bkw0 95 rfl
def bkwl1 : List (Nat × Cond) := [(96, Cond.selects "PalmHoursModel" ⟨"PalmHoursModel", "finishesDoings", "(I)I"⟩ ⟨"PalmHoursModel", "finishesDoings", "(I)I"⟩), (97, Cond.selects "PalmHoursModel" ⟨"PalmHoursModel", "hour", "(II)I"⟩ ⟨"PalmHoursModel", "hour", "(II)I"⟩), (98, Cond.selects "PalmHoursModel" ⟨"PalmHoursModel", "lays", "(II)V"⟩ ⟨"PalmHoursModel", "lays", "(II)V"⟩), (99, Cond.selects "PalmHoursModel" ⟨"PalmHoursModel", "isTold", "(I)Z"⟩ ⟨"PalmHoursModel", "isTold", "(I)Z"⟩), (100, Cond.selects "PalmHoursModel" ⟨"PalmHoursModel", "reckons", "(I)J"⟩ ⟨"PalmHoursModel", "reckons", "(I)J"⟩), (101, Cond.selects "PalmHoursModel" ⟨"PalmHoursModel", "writesDown", "(II)V"⟩ ⟨"PalmHoursModel", "writesDown", "(II)V"⟩), (102, Cond.selects "PalmHoursModel" ⟨"PalmHoursModel", "slot", "(I)I"⟩ ⟨"PalmHoursModel", "slot", "(I)I"⟩), (103, Cond.selects "PalmHoursModel" ⟨"PalmHoursModel", "copies", "(II)V"⟩ ⟨"PalmHoursModel", "copies", "(II)V"⟩), (104, Cond.selects "PalmHoursModel" ⟨"PalmHoursModel", "isThing", "(I)Z"⟩ ⟨"PalmHoursModel", "isThing", "(I)Z"⟩), (105, Cond.selects "PalmHoursModel" ⟨"PalmHoursModel", "isCorner", "(I)Z"⟩ ⟨"PalmHoursModel", "isCorner", "(I)Z"⟩), (106, Cond.selects "PalmHoursModel" ⟨"PalmHoursModel", "isDoing", "(I)Z"⟩ ⟨"PalmHoursModel", "isDoing", "(I)Z"⟩), (107, Cond.selects "PalmHoursModel" ⟨"PalmHoursModel", "isAhead", "(III)Z"⟩ ⟨"PalmHoursModel", "isAhead", "(III)Z"⟩), (108, Cond.selects "PalmHoursModel" ⟨"PalmHoursModel", "passes", "(I)I"⟩ ⟨"PalmHoursModel", "passes", "(I)I"⟩), (109, Cond.selects "PalmHoursModel" ⟨"PalmHoursModel", "ticks", "(I)V"⟩ ⟨"PalmHoursModel", "ticks", "(I)V"⟩), (110, Cond.selects "PalmHoursModel" ⟨"PalmHoursModel", "isGone", "(II)Z"⟩ ⟨"PalmHoursModel", "isGone", "(II)Z"⟩), (111, Cond.selects "PalmHoursModel" ⟨"PalmHoursModel", "puts", "(III)V"⟩ ⟨"PalmHoursModel", "puts", "(III)V"⟩), (112, Cond.selects "PalmHoursModel" ⟨"PalmHoursModel", "isDoneBy", "(II)Z"⟩ ⟨"PalmHoursModel", "isDoneBy", "(II)Z"⟩), (113, Cond.selects "PalmHoursModel" ⟨"PalmHoursModel", "heldBits", "(I)I"⟩ ⟨"PalmHoursModel", "heldBits", "(I)I"⟩), (114, Cond.selects "PalmHoursModel" ⟨"PalmHoursModel", "keeps", "()V"⟩ ⟨"PalmHoursModel", "keeps", "()V"⟩), (115, Cond.selects "PalmHoursModel" ⟨"PalmHoursModel", "draw", "(I)I"⟩ ⟨"PalmHoursModel", "draw", "(I)I"⟩), (116, Cond.selects "PalmHoursModel" ⟨"PalmHoursModel", "writes", "(I)V"⟩ ⟨"PalmHoursModel", "writes", "(I)V"⟩), (117, Cond.selects "PalmHoursModel" ⟨"PalmHoursModel", "comesOn", "(I)Z"⟩ ⟨"PalmHoursModel", "comesOn", "(I)Z"⟩), (118, Cond.selects "PalmHoursModel" ⟨"PalmHoursModel", "cornerOn", "(II)Z"⟩ ⟨"PalmHoursModel", "cornerOn", "(II)Z"⟩), (120, Cond.initialized "PalmHours"), (121, Cond.initialized "PalmHours$Tape"), (122, Cond.initialized "PalmHours$Town"), (123, Cond.initialized "PalmHours$Formula"), (124, Cond.initialized "PalmHours$Reader"), (125, Cond.initialized "PalmHours$Tokens"), (130, Cond.initialized "PalmHours$Phrases"), (131, Cond.initialized "PalmHours$Palm"), (132, Cond.initialized "PalmHours$State"), (133, Cond.initialized "PalmHours$Past"), (134, Cond.initialized "PalmHours$Walks"), (135, Cond.initialized "PalmHours$Seen"), (136, Cond.initialized "java/lang/Math"), (137, Cond.initialized "PalmHoursModel"), (138, Cond.initialized "java/lang/System"), (153, Cond.fieldLink "PalmHours$Tape" 9 "PalmHours$Tape" "bytes" "[I"), (154, Cond.fieldLink "PalmHours$State" 120 "PalmHours$Tape" "bytes" "[I"), (155, Cond.fieldLink "PalmHours$Tape" 15 "PalmHours$Tape" "length" "I"), (156, Cond.fieldLink "PalmHours$Seen" 30 "PalmHours$Tape" "length" "I"), (157, Cond.fieldLink "PalmHours" 116 "PalmHours$Tape" "length" "I"), (158, Cond.fieldLink "PalmHours$Tokens" 93 "PalmHours$Tape" "length" "I"), (159, Cond.fieldLink "PalmHours$State" 104 "PalmHours$Tape" "length" "I"), (178, Cond.fieldLink "PalmHours$Formula" 9 "PalmHours$Formula" "steps" "[I"), (179, Cond.fieldLink "PalmHours$Palm" 86 "PalmHours$Formula" "steps" "[I"), (180, Cond.fieldLink "PalmHours$Formula" 15 "PalmHours$Formula" "size" "I"), (181, Cond.fieldLink "PalmHours$Town" 74 "PalmHours$Formula" "size" "I"), (182, Cond.fieldLink "PalmHours$Palm" 83 "PalmHours$Formula" "size" "I"), (188, Cond.fieldLink "PalmHours$Town" 9 "PalmHours$Town" "statements" "I"), (189, Cond.fieldLink "PalmHours$Reader" 57 "PalmHours$Town" "statements" "I"), (190, Cond.fieldLink "PalmHours" 133 "PalmHours$Town" "statements" "I"), (191, Cond.fieldLink "PalmHours$Town" 15 "PalmHours$Town" "things" "I"), (192, Cond.fieldLink "PalmHours$Reader" 67 "PalmHours$Town" "things" "I"), (193, Cond.fieldLink "PalmHours" 136 "PalmHours$Town" "things" "I"), (194, Cond.fieldLink "PalmHours$Town" 18 "PalmHours$Town" "thingNames" "[I"), (195, Cond.fieldLink "PalmHours" 168 "PalmHours$Town" "thingNames" "[I"), (196, Cond.fieldLink "PalmHours$Town" 22 "PalmHours$Town" "weighs" "[I"), (197, Cond.fieldLink "PalmHours$Palm" 58 "PalmHours$Town" "weighs" "[I"), (198, Cond.fieldLink "PalmHours" 187 "PalmHours$Town" "weighs" "[I"), (199, Cond.fieldLink "PalmHours$Town" 25 "PalmHours$Town" "lasts" "[I"), (200, Cond.fieldLink "PalmHours$Palm" 73 "PalmHours$Town" "lasts" "[I"), (201, Cond.fieldLink "PalmHours" 190 "PalmHours$Town" "lasts" "[I"), (202, Cond.fieldLink "PalmHours$Town" 28 "PalmHours$Town" "corners" "I"), (203, Cond.fieldLink "PalmHours$State" 38 "PalmHours$Town" "corners" "I"), (204, Cond.fieldLink "PalmHours$Walks" 19 "PalmHours$Town" "corners" "I"), (205, Cond.fieldLink "PalmHours$Reader" 77 "PalmHours$Town" "corners" "I"), (206, Cond.fieldLink "PalmHours" 139 "PalmHours$Town" "corners" "I"), (207, Cond.fieldLink "PalmHours$Town" 31 "PalmHours$Town" "cornerNames" "[I"), (208, Cond.fieldLink "PalmHours" 178 "PalmHours$Town" "cornerNames" "[I"), (209, Cond.fieldLink "PalmHours$Town" 34 "PalmHours$Town" "palms" "[I"), (210, Cond.fieldLink "PalmHours$State" 43 "PalmHours$Town" "palms" "[I"), (211, Cond.fieldLink "PalmHours$Reader" 147 "PalmHours$Town" "palms" "[I"), (212, Cond.fieldLink "PalmHours$Town" 37 "PalmHours$Town" "roads" "I"), (213, Cond.fieldLink "PalmHours$Walks" 25 "PalmHours$Town" "roads" "I"), (214, Cond.fieldLink "PalmHours$Reader" 83 "PalmHours$Town" "roads" "I"), (215, Cond.fieldLink "PalmHours" 142 "PalmHours$Town" "roads" "I"), (216, Cond.fieldLink "PalmHours$Town" 40 "PalmHours$Town" "roadFrom" "[I"), (217, Cond.fieldLink "PalmHours$Walks" 28 "PalmHours$Town" "roadFrom" "[I"), (218, Cond.fieldLink "PalmHours$Town" 43 "PalmHours$Town" "roadTo" "[I"), (219, Cond.fieldLink "PalmHours$Walks" 31 "PalmHours$Town" "roadTo" "[I"), (220, Cond.fieldLink "PalmHours$Town" 46 "PalmHours$Town" "roadSteps" "[I"), (221, Cond.fieldLink "PalmHours$Walks" 34 "PalmHours$Town" "roadSteps" "[I"), (222, Cond.fieldLink "PalmHours$Town" 49 "PalmHours$Town" "doings" "I"), (223, Cond.fieldLink "PalmHours$State" 50 "PalmHours$Town" "doings" "I"), (224, Cond.fieldLink "PalmHours$Reader" 92 "PalmHours$Town" "doings" "I"), (225, Cond.fieldLink "PalmHours" 145 "PalmHours$Town" "doings" "I"), (226, Cond.fieldLink "PalmHours$Town" 52 "PalmHours$Town" "doingNames" "[I"), (227, Cond.fieldLink "PalmHours" 184 "PalmHours$Town" "doingNames" "[I"), (228, Cond.fieldLink "PalmHours$Town" 55 "PalmHours$Town" "doingCorners" "[I"), (229, Cond.fieldLink "PalmHours$State" 81 "PalmHours$Town" "doingCorners" "[I"), (230, Cond.fieldLink "PalmHours" 201 "PalmHours$Town" "doingCorners" "[I"), (231, Cond.fieldLink "PalmHours$Town" 58 "PalmHours$Town" "doingHours" "[I"), (232, Cond.fieldLink "PalmHours$State" 88 "PalmHours$Town" "doingHours" "[I"), (233, Cond.fieldLink "PalmHours" 204 "PalmHours$Town" "doingHours" "[I")]
theorem bkw1 : pkW lw_tbl 0 bkwl1 = true := by decide +kernel
theorem w96 : Cond.selects "PalmHoursModel" ⟨"PalmHoursModel", "finishesDoings", "(I)I"⟩ ⟨"PalmHoursModel", "finishesDoings", "(I)I"⟩ ∈ lw_g := pkW_i bkw1 0 rfl
theorem w97 : Cond.selects "PalmHoursModel" ⟨"PalmHoursModel", "hour", "(II)I"⟩ ⟨"PalmHoursModel", "hour", "(II)I"⟩ ∈ lw_g := pkW_i bkw1 1 rfl
theorem w98 : Cond.selects "PalmHoursModel" ⟨"PalmHoursModel", "lays", "(II)V"⟩ ⟨"PalmHoursModel", "lays", "(II)V"⟩ ∈ lw_g := pkW_i bkw1 2 rfl
theorem w99 : Cond.selects "PalmHoursModel" ⟨"PalmHoursModel", "isTold", "(I)Z"⟩ ⟨"PalmHoursModel", "isTold", "(I)Z"⟩ ∈ lw_g := pkW_i bkw1 3 rfl
theorem w100 : Cond.selects "PalmHoursModel" ⟨"PalmHoursModel", "reckons", "(I)J"⟩ ⟨"PalmHoursModel", "reckons", "(I)J"⟩ ∈ lw_g := pkW_i bkw1 4 rfl
theorem w101 : Cond.selects "PalmHoursModel" ⟨"PalmHoursModel", "writesDown", "(II)V"⟩ ⟨"PalmHoursModel", "writesDown", "(II)V"⟩ ∈ lw_g := pkW_i bkw1 5 rfl
theorem w102 : Cond.selects "PalmHoursModel" ⟨"PalmHoursModel", "slot", "(I)I"⟩ ⟨"PalmHoursModel", "slot", "(I)I"⟩ ∈ lw_g := pkW_i bkw1 6 rfl
theorem w103 : Cond.selects "PalmHoursModel" ⟨"PalmHoursModel", "copies", "(II)V"⟩ ⟨"PalmHoursModel", "copies", "(II)V"⟩ ∈ lw_g := pkW_i bkw1 7 rfl
theorem w104 : Cond.selects "PalmHoursModel" ⟨"PalmHoursModel", "isThing", "(I)Z"⟩ ⟨"PalmHoursModel", "isThing", "(I)Z"⟩ ∈ lw_g := pkW_i bkw1 8 rfl
theorem w105 : Cond.selects "PalmHoursModel" ⟨"PalmHoursModel", "isCorner", "(I)Z"⟩ ⟨"PalmHoursModel", "isCorner", "(I)Z"⟩ ∈ lw_g := pkW_i bkw1 9 rfl
theorem w106 : Cond.selects "PalmHoursModel" ⟨"PalmHoursModel", "isDoing", "(I)Z"⟩ ⟨"PalmHoursModel", "isDoing", "(I)Z"⟩ ∈ lw_g := pkW_i bkw1 10 rfl
theorem w107 : Cond.selects "PalmHoursModel" ⟨"PalmHoursModel", "isAhead", "(III)Z"⟩ ⟨"PalmHoursModel", "isAhead", "(III)Z"⟩ ∈ lw_g := pkW_i bkw1 11 rfl
theorem w108 : Cond.selects "PalmHoursModel" ⟨"PalmHoursModel", "passes", "(I)I"⟩ ⟨"PalmHoursModel", "passes", "(I)I"⟩ ∈ lw_g := pkW_i bkw1 12 rfl
theorem w109 : Cond.selects "PalmHoursModel" ⟨"PalmHoursModel", "ticks", "(I)V"⟩ ⟨"PalmHoursModel", "ticks", "(I)V"⟩ ∈ lw_g := pkW_i bkw1 13 rfl
theorem w110 : Cond.selects "PalmHoursModel" ⟨"PalmHoursModel", "isGone", "(II)Z"⟩ ⟨"PalmHoursModel", "isGone", "(II)Z"⟩ ∈ lw_g := pkW_i bkw1 14 rfl
theorem w111 : Cond.selects "PalmHoursModel" ⟨"PalmHoursModel", "puts", "(III)V"⟩ ⟨"PalmHoursModel", "puts", "(III)V"⟩ ∈ lw_g := pkW_i bkw1 15 rfl
theorem w112 : Cond.selects "PalmHoursModel" ⟨"PalmHoursModel", "isDoneBy", "(II)Z"⟩ ⟨"PalmHoursModel", "isDoneBy", "(II)Z"⟩ ∈ lw_g := pkW_i bkw1 16 rfl
theorem w113 : Cond.selects "PalmHoursModel" ⟨"PalmHoursModel", "heldBits", "(I)I"⟩ ⟨"PalmHoursModel", "heldBits", "(I)I"⟩ ∈ lw_g := pkW_i bkw1 17 rfl
theorem w114 : Cond.selects "PalmHoursModel" ⟨"PalmHoursModel", "keeps", "()V"⟩ ⟨"PalmHoursModel", "keeps", "()V"⟩ ∈ lw_g := pkW_i bkw1 18 rfl
theorem w115 : Cond.selects "PalmHoursModel" ⟨"PalmHoursModel", "draw", "(I)I"⟩ ⟨"PalmHoursModel", "draw", "(I)I"⟩ ∈ lw_g := pkW_i bkw1 19 rfl
theorem w116 : Cond.selects "PalmHoursModel" ⟨"PalmHoursModel", "writes", "(I)V"⟩ ⟨"PalmHoursModel", "writes", "(I)V"⟩ ∈ lw_g := pkW_i bkw1 20 rfl
theorem w117 : Cond.selects "PalmHoursModel" ⟨"PalmHoursModel", "comesOn", "(I)Z"⟩ ⟨"PalmHoursModel", "comesOn", "(I)Z"⟩ ∈ lw_g := pkW_i bkw1 21 rfl
theorem w118 : Cond.selects "PalmHoursModel" ⟨"PalmHoursModel", "cornerOn", "(II)Z"⟩ ⟨"PalmHoursModel", "cornerOn", "(II)Z"⟩ ∈ lw_g := pkW_i bkw1 22 rfl
theorem w120 : Cond.initialized "PalmHours" ∈ lw_g := pkW_i bkw1 23 rfl
theorem w121 : Cond.initialized "PalmHours$Tape" ∈ lw_g := pkW_i bkw1 24 rfl
theorem w122 : Cond.initialized "PalmHours$Town" ∈ lw_g := pkW_i bkw1 25 rfl
theorem w123 : Cond.initialized "PalmHours$Formula" ∈ lw_g := pkW_i bkw1 26 rfl
theorem w124 : Cond.initialized "PalmHours$Reader" ∈ lw_g := pkW_i bkw1 27 rfl
theorem w125 : Cond.initialized "PalmHours$Tokens" ∈ lw_g := pkW_i bkw1 28 rfl
theorem w130 : Cond.initialized "PalmHours$Phrases" ∈ lw_g := pkW_i bkw1 29 rfl
theorem w131 : Cond.initialized "PalmHours$Palm" ∈ lw_g := pkW_i bkw1 30 rfl
theorem w132 : Cond.initialized "PalmHours$State" ∈ lw_g := pkW_i bkw1 31 rfl
theorem w133 : Cond.initialized "PalmHours$Past" ∈ lw_g := pkW_i bkw1 32 rfl
theorem w134 : Cond.initialized "PalmHours$Walks" ∈ lw_g := pkW_i bkw1 33 rfl
theorem w135 : Cond.initialized "PalmHours$Seen" ∈ lw_g := pkW_i bkw1 34 rfl
theorem w136 : Cond.initialized "java/lang/Math" ∈ lw_g := pkW_i bkw1 35 rfl
theorem w137 : Cond.initialized "PalmHoursModel" ∈ lw_g := pkW_i bkw1 36 rfl
theorem w138 : Cond.initialized "java/lang/System" ∈ lw_g := pkW_i bkw1 37 rfl
theorem w153 : Cond.fieldLink "PalmHours$Tape" 9 "PalmHours$Tape" "bytes" "[I" ∈ lw_g := pkW_i bkw1 38 rfl
theorem w154 : Cond.fieldLink "PalmHours$State" 120 "PalmHours$Tape" "bytes" "[I" ∈ lw_g := pkW_i bkw1 39 rfl
theorem w155 : Cond.fieldLink "PalmHours$Tape" 15 "PalmHours$Tape" "length" "I" ∈ lw_g := pkW_i bkw1 40 rfl
theorem w156 : Cond.fieldLink "PalmHours$Seen" 30 "PalmHours$Tape" "length" "I" ∈ lw_g := pkW_i bkw1 41 rfl
theorem w157 : Cond.fieldLink "PalmHours" 116 "PalmHours$Tape" "length" "I" ∈ lw_g := pkW_i bkw1 42 rfl
theorem w158 : Cond.fieldLink "PalmHours$Tokens" 93 "PalmHours$Tape" "length" "I" ∈ lw_g := pkW_i bkw1 43 rfl
theorem w159 : Cond.fieldLink "PalmHours$State" 104 "PalmHours$Tape" "length" "I" ∈ lw_g := pkW_i bkw1 44 rfl
theorem w178 : Cond.fieldLink "PalmHours$Formula" 9 "PalmHours$Formula" "steps" "[I" ∈ lw_g := pkW_i bkw1 45 rfl
theorem w179 : Cond.fieldLink "PalmHours$Palm" 86 "PalmHours$Formula" "steps" "[I" ∈ lw_g := pkW_i bkw1 46 rfl
theorem w180 : Cond.fieldLink "PalmHours$Formula" 15 "PalmHours$Formula" "size" "I" ∈ lw_g := pkW_i bkw1 47 rfl
theorem w181 : Cond.fieldLink "PalmHours$Town" 74 "PalmHours$Formula" "size" "I" ∈ lw_g := pkW_i bkw1 48 rfl
theorem w182 : Cond.fieldLink "PalmHours$Palm" 83 "PalmHours$Formula" "size" "I" ∈ lw_g := pkW_i bkw1 49 rfl
theorem w188 : Cond.fieldLink "PalmHours$Town" 9 "PalmHours$Town" "statements" "I" ∈ lw_g := pkW_i bkw1 50 rfl
theorem w189 : Cond.fieldLink "PalmHours$Reader" 57 "PalmHours$Town" "statements" "I" ∈ lw_g := pkW_i bkw1 51 rfl
theorem w190 : Cond.fieldLink "PalmHours" 133 "PalmHours$Town" "statements" "I" ∈ lw_g := pkW_i bkw1 52 rfl
theorem w191 : Cond.fieldLink "PalmHours$Town" 15 "PalmHours$Town" "things" "I" ∈ lw_g := pkW_i bkw1 53 rfl
theorem w192 : Cond.fieldLink "PalmHours$Reader" 67 "PalmHours$Town" "things" "I" ∈ lw_g := pkW_i bkw1 54 rfl
theorem w193 : Cond.fieldLink "PalmHours" 136 "PalmHours$Town" "things" "I" ∈ lw_g := pkW_i bkw1 55 rfl
theorem w194 : Cond.fieldLink "PalmHours$Town" 18 "PalmHours$Town" "thingNames" "[I" ∈ lw_g := pkW_i bkw1 56 rfl
theorem w195 : Cond.fieldLink "PalmHours" 168 "PalmHours$Town" "thingNames" "[I" ∈ lw_g := pkW_i bkw1 57 rfl
theorem w196 : Cond.fieldLink "PalmHours$Town" 22 "PalmHours$Town" "weighs" "[I" ∈ lw_g := pkW_i bkw1 58 rfl
theorem w197 : Cond.fieldLink "PalmHours$Palm" 58 "PalmHours$Town" "weighs" "[I" ∈ lw_g := pkW_i bkw1 59 rfl
theorem w198 : Cond.fieldLink "PalmHours" 187 "PalmHours$Town" "weighs" "[I" ∈ lw_g := pkW_i bkw1 60 rfl
theorem w199 : Cond.fieldLink "PalmHours$Town" 25 "PalmHours$Town" "lasts" "[I" ∈ lw_g := pkW_i bkw1 61 rfl
theorem w200 : Cond.fieldLink "PalmHours$Palm" 73 "PalmHours$Town" "lasts" "[I" ∈ lw_g := pkW_i bkw1 62 rfl
theorem w201 : Cond.fieldLink "PalmHours" 190 "PalmHours$Town" "lasts" "[I" ∈ lw_g := pkW_i bkw1 63 rfl
theorem w202 : Cond.fieldLink "PalmHours$Town" 28 "PalmHours$Town" "corners" "I" ∈ lw_g := pkW_i bkw1 64 rfl
theorem w203 : Cond.fieldLink "PalmHours$State" 38 "PalmHours$Town" "corners" "I" ∈ lw_g := pkW_i bkw1 65 rfl
theorem w204 : Cond.fieldLink "PalmHours$Walks" 19 "PalmHours$Town" "corners" "I" ∈ lw_g := pkW_i bkw1 66 rfl
theorem w205 : Cond.fieldLink "PalmHours$Reader" 77 "PalmHours$Town" "corners" "I" ∈ lw_g := pkW_i bkw1 67 rfl
theorem w206 : Cond.fieldLink "PalmHours" 139 "PalmHours$Town" "corners" "I" ∈ lw_g := pkW_i bkw1 68 rfl
theorem w207 : Cond.fieldLink "PalmHours$Town" 31 "PalmHours$Town" "cornerNames" "[I" ∈ lw_g := pkW_i bkw1 69 rfl
theorem w208 : Cond.fieldLink "PalmHours" 178 "PalmHours$Town" "cornerNames" "[I" ∈ lw_g := pkW_i bkw1 70 rfl
theorem w209 : Cond.fieldLink "PalmHours$Town" 34 "PalmHours$Town" "palms" "[I" ∈ lw_g := pkW_i bkw1 71 rfl
theorem w210 : Cond.fieldLink "PalmHours$State" 43 "PalmHours$Town" "palms" "[I" ∈ lw_g := pkW_i bkw1 72 rfl
theorem w211 : Cond.fieldLink "PalmHours$Reader" 147 "PalmHours$Town" "palms" "[I" ∈ lw_g := pkW_i bkw1 73 rfl
theorem w212 : Cond.fieldLink "PalmHours$Town" 37 "PalmHours$Town" "roads" "I" ∈ lw_g := pkW_i bkw1 74 rfl
theorem w213 : Cond.fieldLink "PalmHours$Walks" 25 "PalmHours$Town" "roads" "I" ∈ lw_g := pkW_i bkw1 75 rfl
theorem w214 : Cond.fieldLink "PalmHours$Reader" 83 "PalmHours$Town" "roads" "I" ∈ lw_g := pkW_i bkw1 76 rfl
theorem w215 : Cond.fieldLink "PalmHours" 142 "PalmHours$Town" "roads" "I" ∈ lw_g := pkW_i bkw1 77 rfl
theorem w216 : Cond.fieldLink "PalmHours$Town" 40 "PalmHours$Town" "roadFrom" "[I" ∈ lw_g := pkW_i bkw1 78 rfl
theorem w217 : Cond.fieldLink "PalmHours$Walks" 28 "PalmHours$Town" "roadFrom" "[I" ∈ lw_g := pkW_i bkw1 79 rfl
theorem w218 : Cond.fieldLink "PalmHours$Town" 43 "PalmHours$Town" "roadTo" "[I" ∈ lw_g := pkW_i bkw1 80 rfl
theorem w219 : Cond.fieldLink "PalmHours$Walks" 31 "PalmHours$Town" "roadTo" "[I" ∈ lw_g := pkW_i bkw1 81 rfl
theorem w220 : Cond.fieldLink "PalmHours$Town" 46 "PalmHours$Town" "roadSteps" "[I" ∈ lw_g := pkW_i bkw1 82 rfl
theorem w221 : Cond.fieldLink "PalmHours$Walks" 34 "PalmHours$Town" "roadSteps" "[I" ∈ lw_g := pkW_i bkw1 83 rfl
theorem w222 : Cond.fieldLink "PalmHours$Town" 49 "PalmHours$Town" "doings" "I" ∈ lw_g := pkW_i bkw1 84 rfl
theorem w223 : Cond.fieldLink "PalmHours$State" 50 "PalmHours$Town" "doings" "I" ∈ lw_g := pkW_i bkw1 85 rfl
theorem w224 : Cond.fieldLink "PalmHours$Reader" 92 "PalmHours$Town" "doings" "I" ∈ lw_g := pkW_i bkw1 86 rfl
theorem w225 : Cond.fieldLink "PalmHours" 145 "PalmHours$Town" "doings" "I" ∈ lw_g := pkW_i bkw1 87 rfl
theorem w226 : Cond.fieldLink "PalmHours$Town" 52 "PalmHours$Town" "doingNames" "[I" ∈ lw_g := pkW_i bkw1 88 rfl
theorem w227 : Cond.fieldLink "PalmHours" 184 "PalmHours$Town" "doingNames" "[I" ∈ lw_g := pkW_i bkw1 89 rfl
theorem w228 : Cond.fieldLink "PalmHours$Town" 55 "PalmHours$Town" "doingCorners" "[I" ∈ lw_g := pkW_i bkw1 90 rfl
theorem w229 : Cond.fieldLink "PalmHours$State" 81 "PalmHours$Town" "doingCorners" "[I" ∈ lw_g := pkW_i bkw1 91 rfl
theorem w230 : Cond.fieldLink "PalmHours" 201 "PalmHours$Town" "doingCorners" "[I" ∈ lw_g := pkW_i bkw1 92 rfl
theorem w231 : Cond.fieldLink "PalmHours$Town" 58 "PalmHours$Town" "doingHours" "[I" ∈ lw_g := pkW_i bkw1 93 rfl
theorem w232 : Cond.fieldLink "PalmHours$State" 88 "PalmHours$Town" "doingHours" "[I" ∈ lw_g := pkW_i bkw1 94 rfl
theorem w233 : Cond.fieldLink "PalmHours" 204 "PalmHours$Town" "doingHours" "[I" ∈ lw_g := pkW_i bkw1 95 rfl
def bkwl2 : List (Nat × Cond) := [(234, Cond.fieldLink "PalmHours$Town" 61 "PalmHours$Town" "pass" "I"), (235, Cond.fieldLink "PalmHours$Reader" 161 "PalmHours$Town" "pass" "I"), (236, Cond.fieldLink "PalmHours" 346 "PalmHours$Town" "pass" "I"), (237, Cond.fieldLink "PalmHours$Reader" 22 "PalmHours$Town" "says" "LPalmHours$Formula;"), (238, Cond.fieldLink "PalmHours$Town" 67 "PalmHours$Town" "says" "LPalmHours$Formula;"), (239, Cond.fieldLink "PalmHours$Palm" 38 "PalmHours$Town" "says" "LPalmHours$Formula;"), (240, Cond.fieldLink "PalmHours$Town" 71 "PalmHours$Town" "gone" "LPalmHours$Formula;"), (241, Cond.fieldLink "PalmHours$Reader" 107 "PalmHours$Town" "gone" "LPalmHours$Formula;"), (242, Cond.fieldLink "PalmHours$Palm" 70 "PalmHours$Town" "gone" "LPalmHours$Formula;"), (343, Cond.methodLink "PalmHours$Tokens" 53 ⟨"PalmHours$Tokens", "fillUp", "(II)I"⟩), (344, Cond.static ⟨"PalmHours$Tokens", "fillUp", "(II)I"⟩), (345, Cond.code ⟨"PalmHours$Tokens", "fillUp", "(II)I"⟩ cX8_fillUp 4 (some .int)), (346, Cond.fieldLink "PalmHours$Tokens" 37 "PalmHours$Tokens" "tape" "LPalmHours$Tape;"), (347, Cond.fieldLink "PalmHours$Tokens" 11 "PalmHours$Tokens" "ownCodes" "[I"), (348, Cond.fieldLink "PalmHours$Tokens" 15 "PalmHours$Tokens" "kind" "I"), (349, Cond.fieldLink "PalmHours$Reader" 45 "PalmHours$Tokens" "kind" "I"), (350, Cond.fieldLink "PalmHours$Phrases" 30 "PalmHours$Tokens" "kind" "I"), (351, Cond.fieldLink "PalmHours$Tokens" 19 "PalmHours$Tokens" "start" "I"), (352, Cond.fieldLink "PalmHours$Reader" 60 "PalmHours$Tokens" "start" "I"), (353, Cond.fieldLink "PalmHours$Phrases" 40 "PalmHours$Tokens" "start" "I"), (354, Cond.fieldLink "PalmHours$Tokens" 22 "PalmHours$Tokens" "place" "I"), (355, Cond.fieldLink "PalmHours$Tokens" 25 "PalmHours$Tokens" "value" "I"), (356, Cond.fieldLink "PalmHours$Reader" 151 "PalmHours$Tokens" "value" "I"), (357, Cond.fieldLink "PalmHours$Phrases" 69 "PalmHours$Tokens" "value" "I"), (358, Cond.fieldLink "PalmHours$Tokens" 28 "PalmHours$Tokens" "next" "I"), (359, Cond.fieldLink "PalmHours$Tokens" 31 "PalmHours$Tokens" "fault" "I"), (360, Cond.fieldLink "PalmHours" 127 "PalmHours$Tokens" "fault" "I"), (361, Cond.fieldLink "PalmHours$Tokens" 34 "PalmHours$Tokens" "faultPlace" "I"), (362, Cond.fieldLink "PalmHours" 132 "PalmHours$Tokens" "faultPlace" "I"), (389, Cond.fieldLink "PalmHours$Phrases" 15 "PalmHours$Phrases" "tokens" "LPalmHours$Tokens;"), (390, Cond.fieldLink "PalmHours$Phrases" 19 "PalmHours$Phrases" "formula" "LPalmHours$Formula;"), (391, Cond.fieldLink "PalmHours$Phrases" 9 "PalmHours$Phrases" "isGone" "Z"), (399, Cond.fieldLink "PalmHours$Reader" 14 "PalmHours$Reader" "tokens" "LPalmHours$Tokens;"), (400, Cond.fieldLink "PalmHours" 123 "PalmHours$Reader" "tokens" "LPalmHours$Tokens;"), (401, Cond.fieldLink "PalmHours$Reader" 31 "PalmHours$Reader" "phrases" "LPalmHours$Phrases;"), (402, Cond.fieldLink "PalmHours$Reader" 35 "PalmHours$Reader" "town" "LPalmHours$Town;"), (416, Cond.fieldLink "PalmHours$Palm" 34 "PalmHours$Palm" "town" "LPalmHours$Town;"), (417, Cond.fieldLink "PalmHours" 312 "PalmHours$Palm" "town" "LPalmHours$Town;"), (418, Cond.fieldLink "PalmHours$Palm" 9 "PalmHours$Palm" "corner" "I"), (419, Cond.fieldLink "PalmHours" 355 "PalmHours$Palm" "corner" "I"), (420, Cond.fieldLink "PalmHours$Palm" 15 "PalmHours$Palm" "thing" "I"), (421, Cond.fieldLink "PalmHours$State" 62 "PalmHours$Palm" "thing" "I"), (422, Cond.fieldLink "PalmHours$Palm" 18 "PalmHours$Palm" "held" "I"), (423, Cond.fieldLink "PalmHours$State" 65 "PalmHours$Palm" "held" "I"), (424, Cond.fieldLink "PalmHours$Palm" 21 "PalmHours$Palm" "minute" "I"), (425, Cond.fieldLink "PalmHours" 358 "PalmHours$Palm" "minute" "I"), (426, Cond.fieldLink "PalmHours$Palm" 24 "PalmHours$Palm" "facts" "[I"), (427, Cond.fieldLink "PalmHours$Palm" 28 "PalmHours$Palm" "waiting" "[I"), (428, Cond.fieldLink "PalmHours$Palm" 31 "PalmHours$Palm" "waitingCount" "I"), (452, Cond.fieldLink "PalmHours$State" 34 "PalmHours$State" "town" "LPalmHours$Town;"), (453, Cond.fieldLink "PalmHours$State" 9 "PalmHours$State" "minute" "I"), (454, Cond.fieldLink "PalmHours" 148 "PalmHours$State" "minute" "I"), (455, Cond.fieldLink "PalmHours$State" 15 "PalmHours$State" "things" "[I"), (456, Cond.fieldLink "PalmHours" 193 "PalmHours$State" "things" "[I"), (457, Cond.fieldLink "PalmHours$State" 19 "PalmHours$State" "held" "[I"), (458, Cond.fieldLink "PalmHours" 195 "PalmHours$State" "held" "[I"), (459, Cond.fieldLink "PalmHours$State" 22 "PalmHours$State" "done" "[I"), (460, Cond.fieldLink "PalmHours" 207 "PalmHours$State" "done" "[I"), (461, Cond.fieldLink "PalmHours$State" 25 "PalmHours$State" "keptCount" "I"), (462, Cond.fieldLink "PalmHours" 158 "PalmHours$State" "keptCount" "I"), (463, Cond.fieldLink "PalmHours$State" 28 "PalmHours$State" "keptMinutes" "[I"), (464, Cond.fieldLink "PalmHours" 294 "PalmHours$State" "keptMinutes" "[I"), (465, Cond.fieldLink "PalmHours$State" 31 "PalmHours$State" "keptDoings" "[I"), (466, Cond.fieldLink "PalmHours" 297 "PalmHours$State" "keptDoings" "[I"), (492, Cond.fieldLink "PalmHours$Past" 13 "PalmHours$Past" "rows" "[[I"), (493, Cond.fieldLink "PalmHours$Past" 18 "PalmHours$Past" "next" "I"), (494, Cond.fieldLink "PalmHours$Past" 22 "PalmHours$Past" "count" "I"), (495, Cond.fieldLink "PalmHours" 164 "PalmHours$Past" "count" "I"), (509, Cond.fieldLink "PalmHours$Walks" 9 "PalmHours$Walks" "shortest" "[I"), (510, Cond.fieldLink "PalmHours$Walks" 15 "PalmHours$Walks" "ends" "[I"), (523, Cond.fieldLink "PalmHours$Seen" 9 "PalmHours$Seen" "count" "I"), (524, Cond.fieldLink "PalmHours" 161 "PalmHours$Seen" "count" "I"), (525, Cond.fieldLink "PalmHours$Seen" 15 "PalmHours$Seen" "ahead" "[I"), (526, Cond.fieldLink "PalmHours$Seen" 19 "PalmHours$Seen" "corners" "[I"), (527, Cond.fieldLink "PalmHours$Seen" 22 "PalmHours$Seen" "hours" "[I"), (528, Cond.fieldLink "PalmHours$Seen" 27 "PalmHours$Seen" "hoursBy" "[[I"), (540, Cond.methodLink "PalmHours" 101 ⟨"PalmHours", "begin", "()V"⟩), (542, Cond.instanceMethod ⟨"PalmHours", "begin", "()V"⟩), (543, Cond.code ⟨"PalmHours", "begin", "()V"⟩ cX11_begin 1 none), (544, Cond.methodLink "PalmHours" 315 ⟨"PalmHours$State", "begin", "(LPalmHours$Town;)V"⟩), (545, Cond.instanceMethod ⟨"PalmHours$State", "begin", "(LPalmHours$Town;)V"⟩), (546, Cond.selects "PalmHours$State" ⟨"PalmHours$State", "begin", "(LPalmHours$Town;)V"⟩ ⟨"PalmHours$State", "begin", "(LPalmHours$Town;)V"⟩), (547, Cond.code ⟨"PalmHours$State", "begin", "(LPalmHours$Town;)V"⟩ cX6_begin 3 none), (548, Cond.methodLink "PalmHours$State" 46 ⟨"PalmHours$State", "put", "(II)V"⟩), (549, Cond.instanceMethod ⟨"PalmHours$State", "put", "(II)V"⟩), (550, Cond.selects "PalmHours$State" ⟨"PalmHours$State", "put", "(II)V"⟩ ⟨"PalmHours$State", "put", "(II)V"⟩), (551, Cond.code ⟨"PalmHours$State", "put", "(II)V"⟩ cX6_put 3 none), (552, Cond.methodLink "PalmHours" 280 ⟨"PalmHours$State", "doWhatIsDue", "(LPalmHours$Palm;)I"⟩), (553, Cond.instanceMethod ⟨"PalmHours$State", "doWhatIsDue", "(LPalmHours$Palm;)I"⟩), (554, Cond.selects "PalmHours$State" ⟨"PalmHours$State", "doWhatIsDue", "(LPalmHours$Palm;)I"⟩ ⟨"PalmHours$State", "doWhatIsDue", "(LPalmHours$Palm;)I"⟩), (555, Cond.code ⟨"PalmHours$State", "doWhatIsDue", "(LPalmHours$Palm;)I"⟩ cX6_doWhatIsDue 4 (some .int)), (556, Cond.methodLink "PalmHours$State" 73 ⟨"PalmHours$State", "isDue", "(ILPalmHours$Palm;)Z"⟩), (558, Cond.instanceMethod ⟨"PalmHours$State", "isDue", "(ILPalmHours$Palm;)Z"⟩), (559, Cond.code ⟨"PalmHours$State", "isDue", "(ILPalmHours$Palm;)Z"⟩ cX6_isDue 4 (some .boolean)), (560, Cond.methodLink "PalmHours$State" 53 ⟨"PalmHours$Palm", "hold", "(IIII)V"⟩), (561, Cond.instanceMethod ⟨"PalmHours$Palm", "hold", "(IIII)V"⟩)]
theorem bkw2 : pkW lw_tbl 0 bkwl2 = true := by decide +kernel
theorem w234 : Cond.fieldLink "PalmHours$Town" 61 "PalmHours$Town" "pass" "I" ∈ lw_g := pkW_i bkw2 0 rfl
theorem w235 : Cond.fieldLink "PalmHours$Reader" 161 "PalmHours$Town" "pass" "I" ∈ lw_g := pkW_i bkw2 1 rfl
theorem w236 : Cond.fieldLink "PalmHours" 346 "PalmHours$Town" "pass" "I" ∈ lw_g := pkW_i bkw2 2 rfl
theorem w237 : Cond.fieldLink "PalmHours$Reader" 22 "PalmHours$Town" "says" "LPalmHours$Formula;" ∈ lw_g := pkW_i bkw2 3 rfl
theorem w238 : Cond.fieldLink "PalmHours$Town" 67 "PalmHours$Town" "says" "LPalmHours$Formula;" ∈ lw_g := pkW_i bkw2 4 rfl
theorem w239 : Cond.fieldLink "PalmHours$Palm" 38 "PalmHours$Town" "says" "LPalmHours$Formula;" ∈ lw_g := pkW_i bkw2 5 rfl
theorem w240 : Cond.fieldLink "PalmHours$Town" 71 "PalmHours$Town" "gone" "LPalmHours$Formula;" ∈ lw_g := pkW_i bkw2 6 rfl
theorem w241 : Cond.fieldLink "PalmHours$Reader" 107 "PalmHours$Town" "gone" "LPalmHours$Formula;" ∈ lw_g := pkW_i bkw2 7 rfl
theorem w242 : Cond.fieldLink "PalmHours$Palm" 70 "PalmHours$Town" "gone" "LPalmHours$Formula;" ∈ lw_g := pkW_i bkw2 8 rfl
theorem w343 : Cond.methodLink "PalmHours$Tokens" 53 ⟨"PalmHours$Tokens", "fillUp", "(II)I"⟩ ∈ lw_g := pkW_i bkw2 9 rfl
theorem w344 : Cond.static ⟨"PalmHours$Tokens", "fillUp", "(II)I"⟩ ∈ lw_g := pkW_i bkw2 10 rfl
theorem w345 : Cond.code ⟨"PalmHours$Tokens", "fillUp", "(II)I"⟩ cX8_fillUp 4 (some .int) ∈ lw_g := pkW_i bkw2 11 rfl
theorem w346 : Cond.fieldLink "PalmHours$Tokens" 37 "PalmHours$Tokens" "tape" "LPalmHours$Tape;" ∈ lw_g := pkW_i bkw2 12 rfl
theorem w347 : Cond.fieldLink "PalmHours$Tokens" 11 "PalmHours$Tokens" "ownCodes" "[I" ∈ lw_g := pkW_i bkw2 13 rfl
theorem w348 : Cond.fieldLink "PalmHours$Tokens" 15 "PalmHours$Tokens" "kind" "I" ∈ lw_g := pkW_i bkw2 14 rfl
theorem w349 : Cond.fieldLink "PalmHours$Reader" 45 "PalmHours$Tokens" "kind" "I" ∈ lw_g := pkW_i bkw2 15 rfl
theorem w350 : Cond.fieldLink "PalmHours$Phrases" 30 "PalmHours$Tokens" "kind" "I" ∈ lw_g := pkW_i bkw2 16 rfl
theorem w351 : Cond.fieldLink "PalmHours$Tokens" 19 "PalmHours$Tokens" "start" "I" ∈ lw_g := pkW_i bkw2 17 rfl
theorem w352 : Cond.fieldLink "PalmHours$Reader" 60 "PalmHours$Tokens" "start" "I" ∈ lw_g := pkW_i bkw2 18 rfl
theorem w353 : Cond.fieldLink "PalmHours$Phrases" 40 "PalmHours$Tokens" "start" "I" ∈ lw_g := pkW_i bkw2 19 rfl
theorem w354 : Cond.fieldLink "PalmHours$Tokens" 22 "PalmHours$Tokens" "place" "I" ∈ lw_g := pkW_i bkw2 20 rfl
theorem w355 : Cond.fieldLink "PalmHours$Tokens" 25 "PalmHours$Tokens" "value" "I" ∈ lw_g := pkW_i bkw2 21 rfl
theorem w356 : Cond.fieldLink "PalmHours$Reader" 151 "PalmHours$Tokens" "value" "I" ∈ lw_g := pkW_i bkw2 22 rfl
theorem w357 : Cond.fieldLink "PalmHours$Phrases" 69 "PalmHours$Tokens" "value" "I" ∈ lw_g := pkW_i bkw2 23 rfl
theorem w358 : Cond.fieldLink "PalmHours$Tokens" 28 "PalmHours$Tokens" "next" "I" ∈ lw_g := pkW_i bkw2 24 rfl
theorem w359 : Cond.fieldLink "PalmHours$Tokens" 31 "PalmHours$Tokens" "fault" "I" ∈ lw_g := pkW_i bkw2 25 rfl
theorem w360 : Cond.fieldLink "PalmHours" 127 "PalmHours$Tokens" "fault" "I" ∈ lw_g := pkW_i bkw2 26 rfl
theorem w361 : Cond.fieldLink "PalmHours$Tokens" 34 "PalmHours$Tokens" "faultPlace" "I" ∈ lw_g := pkW_i bkw2 27 rfl
theorem w362 : Cond.fieldLink "PalmHours" 132 "PalmHours$Tokens" "faultPlace" "I" ∈ lw_g := pkW_i bkw2 28 rfl
theorem w389 : Cond.fieldLink "PalmHours$Phrases" 15 "PalmHours$Phrases" "tokens" "LPalmHours$Tokens;" ∈ lw_g := pkW_i bkw2 29 rfl
theorem w390 : Cond.fieldLink "PalmHours$Phrases" 19 "PalmHours$Phrases" "formula" "LPalmHours$Formula;" ∈ lw_g := pkW_i bkw2 30 rfl
theorem w391 : Cond.fieldLink "PalmHours$Phrases" 9 "PalmHours$Phrases" "isGone" "Z" ∈ lw_g := pkW_i bkw2 31 rfl
theorem w399 : Cond.fieldLink "PalmHours$Reader" 14 "PalmHours$Reader" "tokens" "LPalmHours$Tokens;" ∈ lw_g := pkW_i bkw2 32 rfl
theorem w400 : Cond.fieldLink "PalmHours" 123 "PalmHours$Reader" "tokens" "LPalmHours$Tokens;" ∈ lw_g := pkW_i bkw2 33 rfl
theorem w401 : Cond.fieldLink "PalmHours$Reader" 31 "PalmHours$Reader" "phrases" "LPalmHours$Phrases;" ∈ lw_g := pkW_i bkw2 34 rfl
theorem w402 : Cond.fieldLink "PalmHours$Reader" 35 "PalmHours$Reader" "town" "LPalmHours$Town;" ∈ lw_g := pkW_i bkw2 35 rfl
theorem w416 : Cond.fieldLink "PalmHours$Palm" 34 "PalmHours$Palm" "town" "LPalmHours$Town;" ∈ lw_g := pkW_i bkw2 36 rfl
theorem w417 : Cond.fieldLink "PalmHours" 312 "PalmHours$Palm" "town" "LPalmHours$Town;" ∈ lw_g := pkW_i bkw2 37 rfl
theorem w418 : Cond.fieldLink "PalmHours$Palm" 9 "PalmHours$Palm" "corner" "I" ∈ lw_g := pkW_i bkw2 38 rfl
theorem w419 : Cond.fieldLink "PalmHours" 355 "PalmHours$Palm" "corner" "I" ∈ lw_g := pkW_i bkw2 39 rfl
theorem w420 : Cond.fieldLink "PalmHours$Palm" 15 "PalmHours$Palm" "thing" "I" ∈ lw_g := pkW_i bkw2 40 rfl
theorem w421 : Cond.fieldLink "PalmHours$State" 62 "PalmHours$Palm" "thing" "I" ∈ lw_g := pkW_i bkw2 41 rfl
theorem w422 : Cond.fieldLink "PalmHours$Palm" 18 "PalmHours$Palm" "held" "I" ∈ lw_g := pkW_i bkw2 42 rfl
theorem w423 : Cond.fieldLink "PalmHours$State" 65 "PalmHours$Palm" "held" "I" ∈ lw_g := pkW_i bkw2 43 rfl
theorem w424 : Cond.fieldLink "PalmHours$Palm" 21 "PalmHours$Palm" "minute" "I" ∈ lw_g := pkW_i bkw2 44 rfl
theorem w425 : Cond.fieldLink "PalmHours" 358 "PalmHours$Palm" "minute" "I" ∈ lw_g := pkW_i bkw2 45 rfl
theorem w426 : Cond.fieldLink "PalmHours$Palm" 24 "PalmHours$Palm" "facts" "[I" ∈ lw_g := pkW_i bkw2 46 rfl
theorem w427 : Cond.fieldLink "PalmHours$Palm" 28 "PalmHours$Palm" "waiting" "[I" ∈ lw_g := pkW_i bkw2 47 rfl
theorem w428 : Cond.fieldLink "PalmHours$Palm" 31 "PalmHours$Palm" "waitingCount" "I" ∈ lw_g := pkW_i bkw2 48 rfl
theorem w452 : Cond.fieldLink "PalmHours$State" 34 "PalmHours$State" "town" "LPalmHours$Town;" ∈ lw_g := pkW_i bkw2 49 rfl
theorem w453 : Cond.fieldLink "PalmHours$State" 9 "PalmHours$State" "minute" "I" ∈ lw_g := pkW_i bkw2 50 rfl
theorem w454 : Cond.fieldLink "PalmHours" 148 "PalmHours$State" "minute" "I" ∈ lw_g := pkW_i bkw2 51 rfl
theorem w455 : Cond.fieldLink "PalmHours$State" 15 "PalmHours$State" "things" "[I" ∈ lw_g := pkW_i bkw2 52 rfl
theorem w456 : Cond.fieldLink "PalmHours" 193 "PalmHours$State" "things" "[I" ∈ lw_g := pkW_i bkw2 53 rfl
theorem w457 : Cond.fieldLink "PalmHours$State" 19 "PalmHours$State" "held" "[I" ∈ lw_g := pkW_i bkw2 54 rfl
theorem w458 : Cond.fieldLink "PalmHours" 195 "PalmHours$State" "held" "[I" ∈ lw_g := pkW_i bkw2 55 rfl
theorem w459 : Cond.fieldLink "PalmHours$State" 22 "PalmHours$State" "done" "[I" ∈ lw_g := pkW_i bkw2 56 rfl
theorem w460 : Cond.fieldLink "PalmHours" 207 "PalmHours$State" "done" "[I" ∈ lw_g := pkW_i bkw2 57 rfl
theorem w461 : Cond.fieldLink "PalmHours$State" 25 "PalmHours$State" "keptCount" "I" ∈ lw_g := pkW_i bkw2 58 rfl
theorem w462 : Cond.fieldLink "PalmHours" 158 "PalmHours$State" "keptCount" "I" ∈ lw_g := pkW_i bkw2 59 rfl
theorem w463 : Cond.fieldLink "PalmHours$State" 28 "PalmHours$State" "keptMinutes" "[I" ∈ lw_g := pkW_i bkw2 60 rfl
theorem w464 : Cond.fieldLink "PalmHours" 294 "PalmHours$State" "keptMinutes" "[I" ∈ lw_g := pkW_i bkw2 61 rfl
theorem w465 : Cond.fieldLink "PalmHours$State" 31 "PalmHours$State" "keptDoings" "[I" ∈ lw_g := pkW_i bkw2 62 rfl
theorem w466 : Cond.fieldLink "PalmHours" 297 "PalmHours$State" "keptDoings" "[I" ∈ lw_g := pkW_i bkw2 63 rfl
theorem w492 : Cond.fieldLink "PalmHours$Past" 13 "PalmHours$Past" "rows" "[[I" ∈ lw_g := pkW_i bkw2 64 rfl
theorem w493 : Cond.fieldLink "PalmHours$Past" 18 "PalmHours$Past" "next" "I" ∈ lw_g := pkW_i bkw2 65 rfl
theorem w494 : Cond.fieldLink "PalmHours$Past" 22 "PalmHours$Past" "count" "I" ∈ lw_g := pkW_i bkw2 66 rfl
theorem w495 : Cond.fieldLink "PalmHours" 164 "PalmHours$Past" "count" "I" ∈ lw_g := pkW_i bkw2 67 rfl
theorem w509 : Cond.fieldLink "PalmHours$Walks" 9 "PalmHours$Walks" "shortest" "[I" ∈ lw_g := pkW_i bkw2 68 rfl
theorem w510 : Cond.fieldLink "PalmHours$Walks" 15 "PalmHours$Walks" "ends" "[I" ∈ lw_g := pkW_i bkw2 69 rfl
theorem w523 : Cond.fieldLink "PalmHours$Seen" 9 "PalmHours$Seen" "count" "I" ∈ lw_g := pkW_i bkw2 70 rfl
theorem w524 : Cond.fieldLink "PalmHours" 161 "PalmHours$Seen" "count" "I" ∈ lw_g := pkW_i bkw2 71 rfl
theorem w525 : Cond.fieldLink "PalmHours$Seen" 15 "PalmHours$Seen" "ahead" "[I" ∈ lw_g := pkW_i bkw2 72 rfl
theorem w526 : Cond.fieldLink "PalmHours$Seen" 19 "PalmHours$Seen" "corners" "[I" ∈ lw_g := pkW_i bkw2 73 rfl
theorem w527 : Cond.fieldLink "PalmHours$Seen" 22 "PalmHours$Seen" "hours" "[I" ∈ lw_g := pkW_i bkw2 74 rfl
theorem w528 : Cond.fieldLink "PalmHours$Seen" 27 "PalmHours$Seen" "hoursBy" "[[I" ∈ lw_g := pkW_i bkw2 75 rfl
theorem w540 : Cond.methodLink "PalmHours" 101 ⟨"PalmHours", "begin", "()V"⟩ ∈ lw_g := pkW_i bkw2 76 rfl
theorem w542 : Cond.instanceMethod ⟨"PalmHours", "begin", "()V"⟩ ∈ lw_g := pkW_i bkw2 77 rfl
theorem w543 : Cond.code ⟨"PalmHours", "begin", "()V"⟩ cX11_begin 1 none ∈ lw_g := pkW_i bkw2 78 rfl
theorem w544 : Cond.methodLink "PalmHours" 315 ⟨"PalmHours$State", "begin", "(LPalmHours$Town;)V"⟩ ∈ lw_g := pkW_i bkw2 79 rfl
theorem w545 : Cond.instanceMethod ⟨"PalmHours$State", "begin", "(LPalmHours$Town;)V"⟩ ∈ lw_g := pkW_i bkw2 80 rfl
theorem w546 : Cond.selects "PalmHours$State" ⟨"PalmHours$State", "begin", "(LPalmHours$Town;)V"⟩ ⟨"PalmHours$State", "begin", "(LPalmHours$Town;)V"⟩ ∈ lw_g := pkW_i bkw2 81 rfl
theorem w547 : Cond.code ⟨"PalmHours$State", "begin", "(LPalmHours$Town;)V"⟩ cX6_begin 3 none ∈ lw_g := pkW_i bkw2 82 rfl
theorem w548 : Cond.methodLink "PalmHours$State" 46 ⟨"PalmHours$State", "put", "(II)V"⟩ ∈ lw_g := pkW_i bkw2 83 rfl
theorem w549 : Cond.instanceMethod ⟨"PalmHours$State", "put", "(II)V"⟩ ∈ lw_g := pkW_i bkw2 84 rfl
theorem w550 : Cond.selects "PalmHours$State" ⟨"PalmHours$State", "put", "(II)V"⟩ ⟨"PalmHours$State", "put", "(II)V"⟩ ∈ lw_g := pkW_i bkw2 85 rfl
theorem w551 : Cond.code ⟨"PalmHours$State", "put", "(II)V"⟩ cX6_put 3 none ∈ lw_g := pkW_i bkw2 86 rfl
theorem w552 : Cond.methodLink "PalmHours" 280 ⟨"PalmHours$State", "doWhatIsDue", "(LPalmHours$Palm;)I"⟩ ∈ lw_g := pkW_i bkw2 87 rfl
theorem w553 : Cond.instanceMethod ⟨"PalmHours$State", "doWhatIsDue", "(LPalmHours$Palm;)I"⟩ ∈ lw_g := pkW_i bkw2 88 rfl
theorem w554 : Cond.selects "PalmHours$State" ⟨"PalmHours$State", "doWhatIsDue", "(LPalmHours$Palm;)I"⟩ ⟨"PalmHours$State", "doWhatIsDue", "(LPalmHours$Palm;)I"⟩ ∈ lw_g := pkW_i bkw2 89 rfl
theorem w555 : Cond.code ⟨"PalmHours$State", "doWhatIsDue", "(LPalmHours$Palm;)I"⟩ cX6_doWhatIsDue 4 (some .int) ∈ lw_g := pkW_i bkw2 90 rfl
theorem w556 : Cond.methodLink "PalmHours$State" 73 ⟨"PalmHours$State", "isDue", "(ILPalmHours$Palm;)Z"⟩ ∈ lw_g := pkW_i bkw2 91 rfl
theorem w558 : Cond.instanceMethod ⟨"PalmHours$State", "isDue", "(ILPalmHours$Palm;)Z"⟩ ∈ lw_g := pkW_i bkw2 92 rfl
theorem w559 : Cond.code ⟨"PalmHours$State", "isDue", "(ILPalmHours$Palm;)Z"⟩ cX6_isDue 4 (some .boolean) ∈ lw_g := pkW_i bkw2 93 rfl
theorem w560 : Cond.methodLink "PalmHours$State" 53 ⟨"PalmHours$Palm", "hold", "(IIII)V"⟩ ∈ lw_g := pkW_i bkw2 94 rfl
theorem w561 : Cond.instanceMethod ⟨"PalmHours$Palm", "hold", "(IIII)V"⟩ ∈ lw_g := pkW_i bkw2 95 rfl
def bkwl3 : List (Nat × Cond) := [(562, Cond.selects "PalmHours$Palm" ⟨"PalmHours$Palm", "hold", "(IIII)V"⟩ ⟨"PalmHours$Palm", "hold", "(IIII)V"⟩), (563, Cond.code ⟨"PalmHours$Palm", "hold", "(IIII)V"⟩ cX1_hold 5 none), (564, Cond.methodLink "PalmHours$State" 84 ⟨"PalmHours$Palm", "hourNow", "()I"⟩), (565, Cond.instanceMethod ⟨"PalmHours$Palm", "hourNow", "()I"⟩), (566, Cond.selects "PalmHours$Palm" ⟨"PalmHours$Palm", "hourNow", "()I"⟩ ⟨"PalmHours$Palm", "hourNow", "()I"⟩), (567, Cond.code ⟨"PalmHours$Palm", "hourNow", "()I"⟩ cX1_hourNow 2 (some .int)), (568, Cond.methodLink "PalmHours$Palm" 44 ⟨"PalmHours$Formula", "isTold", "()Z"⟩), (569, Cond.instanceMethod ⟨"PalmHours$Formula", "isTold", "()Z"⟩), (570, Cond.selects "PalmHours$Formula" ⟨"PalmHours$Formula", "isTold", "()Z"⟩ ⟨"PalmHours$Formula", "isTold", "()Z"⟩), (571, Cond.code ⟨"PalmHours$Formula", "isTold", "()Z"⟩ cX0_isTold 1 (some .boolean)), (572, Cond.methodLink "PalmHours$Palm" 50 ⟨"PalmHours$Palm", "valueOf", "(LPalmHours$Formula;)I"⟩), (574, Cond.instanceMethod ⟨"PalmHours$Palm", "valueOf", "(LPalmHours$Formula;)I"⟩), (575, Cond.code ⟨"PalmHours$Palm", "valueOf", "(LPalmHours$Formula;)I"⟩ cX1_valueOf 5 (some .int)), (576, Cond.methodLink "PalmHours$Palm" 54 ⟨"PalmHours$Town", "isThing", "(I)Z"⟩), (577, Cond.instanceMethod ⟨"PalmHours$Town", "isThing", "(I)Z"⟩), (578, Cond.selects "PalmHours$Town" ⟨"PalmHours$Town", "isThing", "(I)Z"⟩ ⟨"PalmHours$Town", "isThing", "(I)Z"⟩), (579, Cond.code ⟨"PalmHours$Town", "isThing", "(I)Z"⟩ cX9_isThing 2 (some .boolean)), (580, Cond.methodLink "PalmHours$Palm" 89 ⟨"PalmHours$Palm", "join", "(I)V"⟩), (582, Cond.instanceMethod ⟨"PalmHours$Palm", "join", "(I)V"⟩), (583, Cond.code ⟨"PalmHours$Palm", "join", "(I)V"⟩ cX1_join 8 none), (584, Cond.methodLink "PalmHours$Palm" 93 ⟨"java/lang/Math", "floorDiv", "(II)I"⟩), (585, Cond.static ⟨"java/lang/Math", "floorDiv", "(II)I"⟩), (586, Cond.code ⟨"java/lang/Math", "floorDiv", "(II)I"⟩ cJ9_floorDiv_7cf53 3 (some .int)), (587, Cond.methodLink "PalmHours$Palm" 96 ⟨"java/lang/Math", "floorMod", "(II)I"⟩), (588, Cond.static ⟨"java/lang/Math", "floorMod", "(II)I"⟩), (589, Cond.code ⟨"java/lang/Math", "floorMod", "(II)I"⟩ cJ9_floorMod_7cf53 3 (some .int)), (590, Cond.methodLink "PalmHours$Palm" 61 ⟨"java/lang/Math", "min", "(II)I"⟩), (591, Cond.static ⟨"java/lang/Math", "min", "(II)I"⟩), (592, Cond.code Lib.Math.min.name Lib.Math.min.code 2 (some .int)), (593, Cond.methodLink "PalmHours$Palm" 67 ⟨"java/lang/Math", "max", "(II)I"⟩), (594, Cond.static ⟨"java/lang/Math", "max", "(II)I"⟩), (595, Cond.code Lib.Math.max.name Lib.Math.max.code 2 (some .int)), (596, Cond.constantLong "PalmHours$Palm" 99 (-1000000)), (597, Cond.constantLong "PalmHours$Palm" 101 (1000000)), (598, Cond.methodLink "PalmHours$Palm" 103 ⟨"java/lang/Math", "min", "(JJ)J"⟩), (599, Cond.static ⟨"java/lang/Math", "min", "(JJ)J"⟩), (600, Cond.code Lib.MathLoose.min_long.x Lib.MathLoose.min_long.code 4 (some .long)), (601, Cond.methodLink "PalmHours$Palm" 106 ⟨"java/lang/Math", "max", "(JJ)J"⟩), (602, Cond.static ⟨"java/lang/Math", "max", "(JJ)J"⟩), (603, Cond.code Lib.MathLoose.max_long.x Lib.MathLoose.max_long.code 4 (some .long)), (604, Cond.methodLink "PalmHours$State" 77 ⟨"PalmHours$State", "keep", "(I)V"⟩), (606, Cond.instanceMethod ⟨"PalmHours$State", "keep", "(I)V"⟩), (607, Cond.code ⟨"PalmHours$State", "keep", "(I)V"⟩ cX6_keep 2 none), (608, Cond.fieldLink "PalmHours" 12 "PalmHours" "tape" "LPalmHours$Tape;"), (609, Cond.fieldLink "PalmHours" 19 "PalmHours" "told" "LPalmHours$Town;"), (610, Cond.fieldLink "PalmHours" 23 "PalmHours" "draft" "LPalmHours$Town;"), (611, Cond.fieldLink "PalmHours" 31 "PalmHours" "reader" "LPalmHours$Reader;"), (612, Cond.fieldLink "PalmHours" 40 "PalmHours" "palm" "LPalmHours$Palm;"), (613, Cond.fieldLink "PalmHours" 47 "PalmHours" "state" "LPalmHours$State;"), (614, Cond.fieldLink "PalmHours" 54 "PalmHours" "past" "LPalmHours$Past;"), (615, Cond.fieldLink "PalmHours" 61 "PalmHours" "walks" "LPalmHours$Walks;"), (616, Cond.fieldLink "PalmHours" 68 "PalmHours" "seen" "LPalmHours$Seen;"), (617, Cond.fieldLink "PalmHours" 72 "PalmHours" "hours" "[I"), (618, Cond.fieldLink "PalmHours" 76 "PalmHours" "otherHours" "[I"), (619, Cond.fieldLink "PalmHours" 79 "PalmHours" "planned" "[I"), (620, Cond.fieldLink "PalmHours" 82 "PalmHours" "imageBytes" "[I"), (621, Cond.fieldLink "PalmHours" 85 "PalmHours" "refused" "[I"), (622, Cond.fieldLink "PalmHours" 88 "PalmHours" "imageLength" "I"), (623, Cond.fieldLink "PalmHours" 92 "PalmHours" "faultKind" "I"), (624, Cond.fieldLink "PalmHours" 95 "PalmHours" "faultPlace" "I"), (625, Cond.fieldLink "PalmHours" 98 "PalmHours" "drawn" "I"), (667, Cond.methodLink "PalmHours" 104 ⟨"PalmHours$Tape", "hasRoomFor", "(I)Z"⟩), (668, Cond.instanceMethod ⟨"PalmHours$Tape", "hasRoomFor", "(I)Z"⟩), (669, Cond.selects "PalmHours$Tape" ⟨"PalmHours$Tape", "hasRoomFor", "(I)Z"⟩ ⟨"PalmHours$Tape", "hasRoomFor", "(I)Z"⟩), (670, Cond.code ⟨"PalmHours$Tape", "hasRoomFor", "(I)Z"⟩ cX7_hasRoomFor 2 (some .boolean)), (671, Cond.methodLink "PalmHours" 108 ⟨"PalmHours", "refuse", "(I)I"⟩), (673, Cond.instanceMethod ⟨"PalmHours", "refuse", "(I)I"⟩), (674, Cond.code ⟨"PalmHours", "refuse", "(I)I"⟩ cX11_refuse 2 (some .int)), (675, Cond.methodLink "PalmHours" 112 ⟨"PalmHours$Tape", "addNumber", "(I)V"⟩), (676, Cond.instanceMethod ⟨"PalmHours$Tape", "addNumber", "(I)V"⟩), (677, Cond.selects "PalmHours$Tape" ⟨"PalmHours$Tape", "addNumber", "(I)V"⟩ ⟨"PalmHours$Tape", "addNumber", "(I)V"⟩), (678, Cond.code ⟨"PalmHours$Tape", "addNumber", "(I)V"⟩ cX7_addNumber 3 none), (687, Cond.methodLink "PalmHours" 119 ⟨"PalmHours$Reader", "read", "(LPalmHours$Town;)Z"⟩), (688, Cond.instanceMethod ⟨"PalmHours$Reader", "read", "(LPalmHours$Town;)Z"⟩), (689, Cond.selects "PalmHours$Reader" ⟨"PalmHours$Reader", "read", "(LPalmHours$Town;)Z"⟩ ⟨"PalmHours$Reader", "read", "(LPalmHours$Town;)Z"⟩), (690, Cond.code ⟨"PalmHours$Reader", "read", "(LPalmHours$Town;)Z"⟩ cX4_read 3 (some .boolean)), (691, Cond.methodLink "PalmHours$Reader" 39 ⟨"PalmHours$Town", "clear", "()V"⟩), (692, Cond.instanceMethod ⟨"PalmHours$Town", "clear", "()V"⟩), (693, Cond.selects "PalmHours$Town" ⟨"PalmHours$Town", "clear", "()V"⟩ ⟨"PalmHours$Town", "clear", "()V"⟩), (694, Cond.code ⟨"PalmHours$Town", "clear", "()V"⟩ cX9_clear 1 none), (695, Cond.methodLink "PalmHours$Reader" 42 ⟨"PalmHours$Tokens", "begin", "()V"⟩), (696, Cond.instanceMethod ⟨"PalmHours$Tokens", "begin", "()V"⟩), (697, Cond.selects "PalmHours$Tokens" ⟨"PalmHours$Tokens", "begin", "()V"⟩ ⟨"PalmHours$Tokens", "begin", "()V"⟩), (698, Cond.code ⟨"PalmHours$Tokens", "begin", "()V"⟩ cX8_begin 1 none), (699, Cond.methodLink "PalmHours$Tokens" 57 ⟨"PalmHours$Tokens", "advance", "()V"⟩), (700, Cond.instanceMethod ⟨"PalmHours$Tokens", "advance", "()V"⟩), (701, Cond.selects "PalmHours$Tokens" ⟨"PalmHours$Tokens", "advance", "()V"⟩ ⟨"PalmHours$Tokens", "advance", "()V"⟩), (702, Cond.code ⟨"PalmHours$Tokens", "advance", "()V"⟩ cX8_advance 4 none), (703, Cond.methodLink "PalmHours$Tokens" 68 ⟨"PalmHours$Tokens", "isWordOrNumber", "()Z"⟩), (705, Cond.instanceMethod ⟨"PalmHours$Tokens", "isWordOrNumber", "()Z"⟩), (706, Cond.code ⟨"PalmHours$Tokens", "isWordOrNumber", "()Z"⟩ cX8_isWordOrNumber 1 (some .boolean)), (707, Cond.methodLink "PalmHours$Tokens" 71 ⟨"PalmHours$Tokens", "skipBlanks", "()V"⟩), (709, Cond.instanceMethod ⟨"PalmHours$Tokens", "skipBlanks", "()V"⟩), (710, Cond.code ⟨"PalmHours$Tokens", "skipBlanks", "()V"⟩ cX8_skipBlanks 2 none), (711, Cond.methodLink "PalmHours$Tokens" 74 ⟨"PalmHours$Tape", "at", "(I)I"⟩), (712, Cond.instanceMethod ⟨"PalmHours$Tape", "at", "(I)I"⟩)]
theorem bkw3 : pkW lw_tbl 0 bkwl3 = true := by decide +kernel
theorem w562 : Cond.selects "PalmHours$Palm" ⟨"PalmHours$Palm", "hold", "(IIII)V"⟩ ⟨"PalmHours$Palm", "hold", "(IIII)V"⟩ ∈ lw_g := pkW_i bkw3 0 rfl
theorem w563 : Cond.code ⟨"PalmHours$Palm", "hold", "(IIII)V"⟩ cX1_hold 5 none ∈ lw_g := pkW_i bkw3 1 rfl
theorem w564 : Cond.methodLink "PalmHours$State" 84 ⟨"PalmHours$Palm", "hourNow", "()I"⟩ ∈ lw_g := pkW_i bkw3 2 rfl
theorem w565 : Cond.instanceMethod ⟨"PalmHours$Palm", "hourNow", "()I"⟩ ∈ lw_g := pkW_i bkw3 3 rfl
theorem w566 : Cond.selects "PalmHours$Palm" ⟨"PalmHours$Palm", "hourNow", "()I"⟩ ⟨"PalmHours$Palm", "hourNow", "()I"⟩ ∈ lw_g := pkW_i bkw3 4 rfl
theorem w567 : Cond.code ⟨"PalmHours$Palm", "hourNow", "()I"⟩ cX1_hourNow 2 (some .int) ∈ lw_g := pkW_i bkw3 5 rfl
theorem w568 : Cond.methodLink "PalmHours$Palm" 44 ⟨"PalmHours$Formula", "isTold", "()Z"⟩ ∈ lw_g := pkW_i bkw3 6 rfl
theorem w569 : Cond.instanceMethod ⟨"PalmHours$Formula", "isTold", "()Z"⟩ ∈ lw_g := pkW_i bkw3 7 rfl
theorem w570 : Cond.selects "PalmHours$Formula" ⟨"PalmHours$Formula", "isTold", "()Z"⟩ ⟨"PalmHours$Formula", "isTold", "()Z"⟩ ∈ lw_g := pkW_i bkw3 8 rfl
theorem w571 : Cond.code ⟨"PalmHours$Formula", "isTold", "()Z"⟩ cX0_isTold 1 (some .boolean) ∈ lw_g := pkW_i bkw3 9 rfl
theorem w572 : Cond.methodLink "PalmHours$Palm" 50 ⟨"PalmHours$Palm", "valueOf", "(LPalmHours$Formula;)I"⟩ ∈ lw_g := pkW_i bkw3 10 rfl
theorem w574 : Cond.instanceMethod ⟨"PalmHours$Palm", "valueOf", "(LPalmHours$Formula;)I"⟩ ∈ lw_g := pkW_i bkw3 11 rfl
theorem w575 : Cond.code ⟨"PalmHours$Palm", "valueOf", "(LPalmHours$Formula;)I"⟩ cX1_valueOf 5 (some .int) ∈ lw_g := pkW_i bkw3 12 rfl
theorem w576 : Cond.methodLink "PalmHours$Palm" 54 ⟨"PalmHours$Town", "isThing", "(I)Z"⟩ ∈ lw_g := pkW_i bkw3 13 rfl
theorem w577 : Cond.instanceMethod ⟨"PalmHours$Town", "isThing", "(I)Z"⟩ ∈ lw_g := pkW_i bkw3 14 rfl
theorem w578 : Cond.selects "PalmHours$Town" ⟨"PalmHours$Town", "isThing", "(I)Z"⟩ ⟨"PalmHours$Town", "isThing", "(I)Z"⟩ ∈ lw_g := pkW_i bkw3 15 rfl
theorem w579 : Cond.code ⟨"PalmHours$Town", "isThing", "(I)Z"⟩ cX9_isThing 2 (some .boolean) ∈ lw_g := pkW_i bkw3 16 rfl
theorem w580 : Cond.methodLink "PalmHours$Palm" 89 ⟨"PalmHours$Palm", "join", "(I)V"⟩ ∈ lw_g := pkW_i bkw3 17 rfl
theorem w582 : Cond.instanceMethod ⟨"PalmHours$Palm", "join", "(I)V"⟩ ∈ lw_g := pkW_i bkw3 18 rfl
theorem w583 : Cond.code ⟨"PalmHours$Palm", "join", "(I)V"⟩ cX1_join 8 none ∈ lw_g := pkW_i bkw3 19 rfl
theorem w584 : Cond.methodLink "PalmHours$Palm" 93 ⟨"java/lang/Math", "floorDiv", "(II)I"⟩ ∈ lw_g := pkW_i bkw3 20 rfl
theorem w585 : Cond.static ⟨"java/lang/Math", "floorDiv", "(II)I"⟩ ∈ lw_g := pkW_i bkw3 21 rfl
theorem w586 : Cond.code ⟨"java/lang/Math", "floorDiv", "(II)I"⟩ cJ9_floorDiv_7cf53 3 (some .int) ∈ lw_g := pkW_i bkw3 22 rfl
theorem w587 : Cond.methodLink "PalmHours$Palm" 96 ⟨"java/lang/Math", "floorMod", "(II)I"⟩ ∈ lw_g := pkW_i bkw3 23 rfl
theorem w588 : Cond.static ⟨"java/lang/Math", "floorMod", "(II)I"⟩ ∈ lw_g := pkW_i bkw3 24 rfl
theorem w589 : Cond.code ⟨"java/lang/Math", "floorMod", "(II)I"⟩ cJ9_floorMod_7cf53 3 (some .int) ∈ lw_g := pkW_i bkw3 25 rfl
theorem w590 : Cond.methodLink "PalmHours$Palm" 61 ⟨"java/lang/Math", "min", "(II)I"⟩ ∈ lw_g := pkW_i bkw3 26 rfl
theorem w591 : Cond.static ⟨"java/lang/Math", "min", "(II)I"⟩ ∈ lw_g := pkW_i bkw3 27 rfl
theorem wm592 : Cond.code Lib.Math.min.name Lib.Math.min.code 2 (some .int) ∈ lw_g := pkW_i bkw3 28 rfl
theorem w593 : Cond.methodLink "PalmHours$Palm" 67 ⟨"java/lang/Math", "max", "(II)I"⟩ ∈ lw_g := pkW_i bkw3 29 rfl
theorem w594 : Cond.static ⟨"java/lang/Math", "max", "(II)I"⟩ ∈ lw_g := pkW_i bkw3 30 rfl
theorem wm595 : Cond.code Lib.Math.max.name Lib.Math.max.code 2 (some .int) ∈ lw_g := pkW_i bkw3 31 rfl
theorem w596 : Cond.constantLong "PalmHours$Palm" 99 (-1000000) ∈ lw_g := pkW_i bkw3 32 rfl
theorem w597 : Cond.constantLong "PalmHours$Palm" 101 (1000000) ∈ lw_g := pkW_i bkw3 33 rfl
theorem w598 : Cond.methodLink "PalmHours$Palm" 103 ⟨"java/lang/Math", "min", "(JJ)J"⟩ ∈ lw_g := pkW_i bkw3 34 rfl
theorem w599 : Cond.static ⟨"java/lang/Math", "min", "(JJ)J"⟩ ∈ lw_g := pkW_i bkw3 35 rfl
theorem wm600 : Cond.code Lib.MathLoose.min_long.x Lib.MathLoose.min_long.code 4 (some .long) ∈ lw_g := pkW_i bkw3 36 rfl
theorem w601 : Cond.methodLink "PalmHours$Palm" 106 ⟨"java/lang/Math", "max", "(JJ)J"⟩ ∈ lw_g := pkW_i bkw3 37 rfl
theorem w602 : Cond.static ⟨"java/lang/Math", "max", "(JJ)J"⟩ ∈ lw_g := pkW_i bkw3 38 rfl
theorem wm603 : Cond.code Lib.MathLoose.max_long.x Lib.MathLoose.max_long.code 4 (some .long) ∈ lw_g := pkW_i bkw3 39 rfl
theorem w604 : Cond.methodLink "PalmHours$State" 77 ⟨"PalmHours$State", "keep", "(I)V"⟩ ∈ lw_g := pkW_i bkw3 40 rfl
theorem w606 : Cond.instanceMethod ⟨"PalmHours$State", "keep", "(I)V"⟩ ∈ lw_g := pkW_i bkw3 41 rfl
theorem w607 : Cond.code ⟨"PalmHours$State", "keep", "(I)V"⟩ cX6_keep 2 none ∈ lw_g := pkW_i bkw3 42 rfl
theorem w608 : Cond.fieldLink "PalmHours" 12 "PalmHours" "tape" "LPalmHours$Tape;" ∈ lw_g := pkW_i bkw3 43 rfl
theorem w609 : Cond.fieldLink "PalmHours" 19 "PalmHours" "told" "LPalmHours$Town;" ∈ lw_g := pkW_i bkw3 44 rfl
theorem w610 : Cond.fieldLink "PalmHours" 23 "PalmHours" "draft" "LPalmHours$Town;" ∈ lw_g := pkW_i bkw3 45 rfl
theorem w611 : Cond.fieldLink "PalmHours" 31 "PalmHours" "reader" "LPalmHours$Reader;" ∈ lw_g := pkW_i bkw3 46 rfl
theorem w612 : Cond.fieldLink "PalmHours" 40 "PalmHours" "palm" "LPalmHours$Palm;" ∈ lw_g := pkW_i bkw3 47 rfl
theorem w613 : Cond.fieldLink "PalmHours" 47 "PalmHours" "state" "LPalmHours$State;" ∈ lw_g := pkW_i bkw3 48 rfl
theorem w614 : Cond.fieldLink "PalmHours" 54 "PalmHours" "past" "LPalmHours$Past;" ∈ lw_g := pkW_i bkw3 49 rfl
theorem w615 : Cond.fieldLink "PalmHours" 61 "PalmHours" "walks" "LPalmHours$Walks;" ∈ lw_g := pkW_i bkw3 50 rfl
theorem w616 : Cond.fieldLink "PalmHours" 68 "PalmHours" "seen" "LPalmHours$Seen;" ∈ lw_g := pkW_i bkw3 51 rfl
theorem w617 : Cond.fieldLink "PalmHours" 72 "PalmHours" "hours" "[I" ∈ lw_g := pkW_i bkw3 52 rfl
theorem w618 : Cond.fieldLink "PalmHours" 76 "PalmHours" "otherHours" "[I" ∈ lw_g := pkW_i bkw3 53 rfl
theorem w619 : Cond.fieldLink "PalmHours" 79 "PalmHours" "planned" "[I" ∈ lw_g := pkW_i bkw3 54 rfl
theorem w620 : Cond.fieldLink "PalmHours" 82 "PalmHours" "imageBytes" "[I" ∈ lw_g := pkW_i bkw3 55 rfl
theorem w621 : Cond.fieldLink "PalmHours" 85 "PalmHours" "refused" "[I" ∈ lw_g := pkW_i bkw3 56 rfl
theorem w622 : Cond.fieldLink "PalmHours" 88 "PalmHours" "imageLength" "I" ∈ lw_g := pkW_i bkw3 57 rfl
theorem w623 : Cond.fieldLink "PalmHours" 92 "PalmHours" "faultKind" "I" ∈ lw_g := pkW_i bkw3 58 rfl
theorem w624 : Cond.fieldLink "PalmHours" 95 "PalmHours" "faultPlace" "I" ∈ lw_g := pkW_i bkw3 59 rfl
theorem w625 : Cond.fieldLink "PalmHours" 98 "PalmHours" "drawn" "I" ∈ lw_g := pkW_i bkw3 60 rfl
theorem w667 : Cond.methodLink "PalmHours" 104 ⟨"PalmHours$Tape", "hasRoomFor", "(I)Z"⟩ ∈ lw_g := pkW_i bkw3 61 rfl
theorem w668 : Cond.instanceMethod ⟨"PalmHours$Tape", "hasRoomFor", "(I)Z"⟩ ∈ lw_g := pkW_i bkw3 62 rfl
theorem w669 : Cond.selects "PalmHours$Tape" ⟨"PalmHours$Tape", "hasRoomFor", "(I)Z"⟩ ⟨"PalmHours$Tape", "hasRoomFor", "(I)Z"⟩ ∈ lw_g := pkW_i bkw3 63 rfl
theorem w670 : Cond.code ⟨"PalmHours$Tape", "hasRoomFor", "(I)Z"⟩ cX7_hasRoomFor 2 (some .boolean) ∈ lw_g := pkW_i bkw3 64 rfl
theorem w671 : Cond.methodLink "PalmHours" 108 ⟨"PalmHours", "refuse", "(I)I"⟩ ∈ lw_g := pkW_i bkw3 65 rfl
theorem w673 : Cond.instanceMethod ⟨"PalmHours", "refuse", "(I)I"⟩ ∈ lw_g := pkW_i bkw3 66 rfl
theorem w674 : Cond.code ⟨"PalmHours", "refuse", "(I)I"⟩ cX11_refuse 2 (some .int) ∈ lw_g := pkW_i bkw3 67 rfl
theorem w675 : Cond.methodLink "PalmHours" 112 ⟨"PalmHours$Tape", "addNumber", "(I)V"⟩ ∈ lw_g := pkW_i bkw3 68 rfl
theorem w676 : Cond.instanceMethod ⟨"PalmHours$Tape", "addNumber", "(I)V"⟩ ∈ lw_g := pkW_i bkw3 69 rfl
theorem w677 : Cond.selects "PalmHours$Tape" ⟨"PalmHours$Tape", "addNumber", "(I)V"⟩ ⟨"PalmHours$Tape", "addNumber", "(I)V"⟩ ∈ lw_g := pkW_i bkw3 70 rfl
theorem w678 : Cond.code ⟨"PalmHours$Tape", "addNumber", "(I)V"⟩ cX7_addNumber 3 none ∈ lw_g := pkW_i bkw3 71 rfl
theorem w687 : Cond.methodLink "PalmHours" 119 ⟨"PalmHours$Reader", "read", "(LPalmHours$Town;)Z"⟩ ∈ lw_g := pkW_i bkw3 72 rfl
theorem w688 : Cond.instanceMethod ⟨"PalmHours$Reader", "read", "(LPalmHours$Town;)Z"⟩ ∈ lw_g := pkW_i bkw3 73 rfl
theorem w689 : Cond.selects "PalmHours$Reader" ⟨"PalmHours$Reader", "read", "(LPalmHours$Town;)Z"⟩ ⟨"PalmHours$Reader", "read", "(LPalmHours$Town;)Z"⟩ ∈ lw_g := pkW_i bkw3 74 rfl
theorem w690 : Cond.code ⟨"PalmHours$Reader", "read", "(LPalmHours$Town;)Z"⟩ cX4_read 3 (some .boolean) ∈ lw_g := pkW_i bkw3 75 rfl
theorem w691 : Cond.methodLink "PalmHours$Reader" 39 ⟨"PalmHours$Town", "clear", "()V"⟩ ∈ lw_g := pkW_i bkw3 76 rfl
theorem w692 : Cond.instanceMethod ⟨"PalmHours$Town", "clear", "()V"⟩ ∈ lw_g := pkW_i bkw3 77 rfl
theorem w693 : Cond.selects "PalmHours$Town" ⟨"PalmHours$Town", "clear", "()V"⟩ ⟨"PalmHours$Town", "clear", "()V"⟩ ∈ lw_g := pkW_i bkw3 78 rfl
theorem w694 : Cond.code ⟨"PalmHours$Town", "clear", "()V"⟩ cX9_clear 1 none ∈ lw_g := pkW_i bkw3 79 rfl
theorem w695 : Cond.methodLink "PalmHours$Reader" 42 ⟨"PalmHours$Tokens", "begin", "()V"⟩ ∈ lw_g := pkW_i bkw3 80 rfl
theorem w696 : Cond.instanceMethod ⟨"PalmHours$Tokens", "begin", "()V"⟩ ∈ lw_g := pkW_i bkw3 81 rfl
theorem w697 : Cond.selects "PalmHours$Tokens" ⟨"PalmHours$Tokens", "begin", "()V"⟩ ⟨"PalmHours$Tokens", "begin", "()V"⟩ ∈ lw_g := pkW_i bkw3 82 rfl
theorem w698 : Cond.code ⟨"PalmHours$Tokens", "begin", "()V"⟩ cX8_begin 1 none ∈ lw_g := pkW_i bkw3 83 rfl
theorem w699 : Cond.methodLink "PalmHours$Tokens" 57 ⟨"PalmHours$Tokens", "advance", "()V"⟩ ∈ lw_g := pkW_i bkw3 84 rfl
theorem w700 : Cond.instanceMethod ⟨"PalmHours$Tokens", "advance", "()V"⟩ ∈ lw_g := pkW_i bkw3 85 rfl
theorem w701 : Cond.selects "PalmHours$Tokens" ⟨"PalmHours$Tokens", "advance", "()V"⟩ ⟨"PalmHours$Tokens", "advance", "()V"⟩ ∈ lw_g := pkW_i bkw3 86 rfl
theorem w702 : Cond.code ⟨"PalmHours$Tokens", "advance", "()V"⟩ cX8_advance 4 none ∈ lw_g := pkW_i bkw3 87 rfl
theorem w703 : Cond.methodLink "PalmHours$Tokens" 68 ⟨"PalmHours$Tokens", "isWordOrNumber", "()Z"⟩ ∈ lw_g := pkW_i bkw3 88 rfl
theorem w705 : Cond.instanceMethod ⟨"PalmHours$Tokens", "isWordOrNumber", "()Z"⟩ ∈ lw_g := pkW_i bkw3 89 rfl
theorem w706 : Cond.code ⟨"PalmHours$Tokens", "isWordOrNumber", "()Z"⟩ cX8_isWordOrNumber 1 (some .boolean) ∈ lw_g := pkW_i bkw3 90 rfl
theorem w707 : Cond.methodLink "PalmHours$Tokens" 71 ⟨"PalmHours$Tokens", "skipBlanks", "()V"⟩ ∈ lw_g := pkW_i bkw3 91 rfl
theorem w709 : Cond.instanceMethod ⟨"PalmHours$Tokens", "skipBlanks", "()V"⟩ ∈ lw_g := pkW_i bkw3 92 rfl
theorem w710 : Cond.code ⟨"PalmHours$Tokens", "skipBlanks", "()V"⟩ cX8_skipBlanks 2 none ∈ lw_g := pkW_i bkw3 93 rfl
theorem w711 : Cond.methodLink "PalmHours$Tokens" 74 ⟨"PalmHours$Tape", "at", "(I)I"⟩ ∈ lw_g := pkW_i bkw3 94 rfl
theorem w712 : Cond.instanceMethod ⟨"PalmHours$Tape", "at", "(I)I"⟩ ∈ lw_g := pkW_i bkw3 95 rfl
def bkwl4 : List (Nat × Cond) := [(713, Cond.selects "PalmHours$Tape" ⟨"PalmHours$Tape", "at", "(I)I"⟩ ⟨"PalmHours$Tape", "at", "(I)I"⟩), (714, Cond.code ⟨"PalmHours$Tape", "at", "(I)I"⟩ cX7_at 2 (some .int)), (715, Cond.methodLink "PalmHours$Tokens" 80 ⟨"PalmHours$Tokens", "isLetter", "(I)Z"⟩), (716, Cond.static ⟨"PalmHours$Tokens", "isLetter", "(I)Z"⟩), (717, Cond.code ⟨"PalmHours$Tokens", "isLetter", "(I)Z"⟩ cX8_isLetter 1 (some .boolean)), (718, Cond.methodLink "PalmHours$Tokens" 84 ⟨"PalmHours$Tokens", "readWord", "()V"⟩), (720, Cond.instanceMethod ⟨"PalmHours$Tokens", "readWord", "()V"⟩), (721, Cond.code ⟨"PalmHours$Tokens", "readWord", "()V"⟩ cX8_readWord 3 none), (722, Cond.methodLink "PalmHours$Tokens" 95 ⟨"PalmHours$Tokens", "kindOf", "(I)I"⟩), (724, Cond.instanceMethod ⟨"PalmHours$Tokens", "kindOf", "(I)I"⟩), (725, Cond.code ⟨"PalmHours$Tokens", "kindOf", "(I)I"⟩ cX8_kindOf 3 (some .int)), (726, Cond.methodLink "PalmHours$Tokens" 87 ⟨"PalmHours$Tokens", "isDigit", "(I)Z"⟩), (727, Cond.static ⟨"PalmHours$Tokens", "isDigit", "(I)Z"⟩), (728, Cond.code ⟨"PalmHours$Tokens", "isDigit", "(I)Z"⟩ cX8_isDigit 1 (some .boolean)), (729, Cond.methodLink "PalmHours$Tokens" 90 ⟨"PalmHours$Tokens", "readNumber", "()V"⟩), (731, Cond.instanceMethod ⟨"PalmHours$Tokens", "readNumber", "()V"⟩), (732, Cond.code ⟨"PalmHours$Tokens", "readNumber", "()V"⟩ cX8_readNumber 3 none), (733, Cond.methodLink "PalmHours$Reader" 49 ⟨"PalmHours$Reader", "readStatement", "()Z"⟩), (735, Cond.instanceMethod ⟨"PalmHours$Reader", "readStatement", "()Z"⟩), (736, Cond.code ⟨"PalmHours$Reader", "readStatement", "()Z"⟩ cX4_readStatement 1 (some .boolean)), (737, Cond.methodLink "PalmHours$Reader" 70 ⟨"PalmHours$Reader", "skipFirst", "(Z)Z"⟩), (739, Cond.instanceMethod ⟨"PalmHours$Reader", "skipFirst", "(Z)Z"⟩), (740, Cond.code ⟨"PalmHours$Reader", "skipFirst", "(Z)Z"⟩ cX4_skipFirst 2 (some .boolean)), (741, Cond.methodLink "PalmHours$Reader" 63 ⟨"PalmHours$Tokens", "fail", "(II)Z"⟩), (742, Cond.instanceMethod ⟨"PalmHours$Tokens", "fail", "(II)Z"⟩), (743, Cond.selects "PalmHours$Tokens" ⟨"PalmHours$Tokens", "fail", "(II)Z"⟩ ⟨"PalmHours$Tokens", "fail", "(II)Z"⟩), (744, Cond.code ⟨"PalmHours$Tokens", "fail", "(II)Z"⟩ cX8_fail 3 (some .boolean)), (745, Cond.methodLink "PalmHours$Reader" 119 ⟨"PalmHours$Tokens", "advance", "()V"⟩), (746, Cond.methodLink "PalmHours$Reader" 74 ⟨"PalmHours$Reader", "readThing", "()Z"⟩), (748, Cond.instanceMethod ⟨"PalmHours$Reader", "readThing", "()Z"⟩), (749, Cond.code ⟨"PalmHours$Reader", "readThing", "()Z"⟩ cX4_readThing 4 (some .boolean)), (750, Cond.methodLink "PalmHours$Reader" 122 ⟨"PalmHours$Reader", "newName", "()I"⟩), (752, Cond.instanceMethod ⟨"PalmHours$Reader", "newName", "()I"⟩), (753, Cond.code ⟨"PalmHours$Reader", "newName", "()I"⟩ cX4_newName 2 (some .int)), (754, Cond.methodLink "PalmHours$Reader" 116 ⟨"PalmHours$Tokens", "failHere", "()Z"⟩), (755, Cond.instanceMethod ⟨"PalmHours$Tokens", "failHere", "()Z"⟩), (756, Cond.selects "PalmHours$Tokens" ⟨"PalmHours$Tokens", "failHere", "()Z"⟩ ⟨"PalmHours$Tokens", "failHere", "()Z"⟩), (757, Cond.code ⟨"PalmHours$Tokens", "failHere", "()Z"⟩ cX8_failHere 1 (some .boolean)), (758, Cond.methodLink "PalmHours$Tokens" 60 ⟨"PalmHours$Tokens", "fail", "(II)Z"⟩), (759, Cond.methodLink "PalmHours$Reader" 154 ⟨"PalmHours$Town", "findThing", "(I)I"⟩), (760, Cond.instanceMethod ⟨"PalmHours$Town", "findThing", "(I)I"⟩), (761, Cond.selects "PalmHours$Town" ⟨"PalmHours$Town", "findThing", "(I)I"⟩ ⟨"PalmHours$Town", "findThing", "(I)I"⟩), (762, Cond.code ⟨"PalmHours$Town", "findThing", "(I)I"⟩ cX9_findThing 2 (some .int)), (763, Cond.methodLink "PalmHours$Town" 77 ⟨"PalmHours$Town", "find", "([III)I"⟩), (764, Cond.static ⟨"PalmHours$Town", "find", "([III)I"⟩), (765, Cond.code ⟨"PalmHours$Town", "find", "([III)I"⟩ cX9_find 4 (some .int)), (766, Cond.methodLink "PalmHours$Reader" 164 ⟨"PalmHours$Town", "findCorner", "(I)I"⟩), (767, Cond.instanceMethod ⟨"PalmHours$Town", "findCorner", "(I)I"⟩), (768, Cond.selects "PalmHours$Town" ⟨"PalmHours$Town", "findCorner", "(I)I"⟩ ⟨"PalmHours$Town", "findCorner", "(I)I"⟩), (769, Cond.code ⟨"PalmHours$Town", "findCorner", "(I)I"⟩ cX9_findCorner 2 (some .int)), (770, Cond.methodLink "PalmHours$Reader" 167 ⟨"PalmHours$Town", "findDoing", "(I)I"⟩), (771, Cond.instanceMethod ⟨"PalmHours$Town", "findDoing", "(I)I"⟩), (772, Cond.selects "PalmHours$Town" ⟨"PalmHours$Town", "findDoing", "(I)I"⟩ ⟨"PalmHours$Town", "findDoing", "(I)I"⟩), (773, Cond.code ⟨"PalmHours$Town", "findDoing", "(I)I"⟩ cX9_findDoing 2 (some .int)), (774, Cond.methodLink "PalmHours$Reader" 53 ⟨"PalmHours$Tokens", "skip", "(I)Z"⟩), (775, Cond.instanceMethod ⟨"PalmHours$Tokens", "skip", "(I)Z"⟩), (776, Cond.selects "PalmHours$Tokens" ⟨"PalmHours$Tokens", "skip", "(I)Z"⟩ ⟨"PalmHours$Tokens", "skip", "(I)Z"⟩), (777, Cond.code ⟨"PalmHours$Tokens", "skip", "(I)Z"⟩ cX8_skip 2 (some .boolean)), (778, Cond.methodLink "PalmHours$Tokens" 64 ⟨"PalmHours$Tokens", "failHere", "()Z"⟩), (779, Cond.methodLink "PalmHours$Reader" 126 ⟨"PalmHours$Reader", "number", "(II)I"⟩), (781, Cond.instanceMethod ⟨"PalmHours$Reader", "number", "(II)I"⟩), (782, Cond.code ⟨"PalmHours$Reader", "number", "(II)I"⟩ cX4_number 4 (some .int)), (783, Cond.methodLink "PalmHours$Reader" 130 ⟨"PalmHours$Town", "addThing", "(III)V"⟩), (784, Cond.instanceMethod ⟨"PalmHours$Town", "addThing", "(III)V"⟩), (785, Cond.selects "PalmHours$Town" ⟨"PalmHours$Town", "addThing", "(III)V"⟩ ⟨"PalmHours$Town", "addThing", "(III)V"⟩), (786, Cond.code ⟨"PalmHours$Town", "addThing", "(III)V"⟩ cX9_addThing 4 none), (787, Cond.methodLink "PalmHours$Reader" 80 ⟨"PalmHours$Reader", "readCorner", "()Z"⟩), (789, Cond.instanceMethod ⟨"PalmHours$Reader", "readCorner", "()Z"⟩), (790, Cond.code ⟨"PalmHours$Reader", "readCorner", "()Z"⟩ cX4_readCorner 2 (some .boolean)), (791, Cond.methodLink "PalmHours$Reader" 134 ⟨"PalmHours$Town", "addCorner", "(I)V"⟩), (792, Cond.instanceMethod ⟨"PalmHours$Town", "addCorner", "(I)V"⟩), (793, Cond.selects "PalmHours$Town" ⟨"PalmHours$Town", "addCorner", "(I)V"⟩ ⟨"PalmHours$Town", "addCorner", "(I)V"⟩), (794, Cond.code ⟨"PalmHours$Town", "addCorner", "(I)V"⟩ cX9_addCorner 2 none), (795, Cond.methodLink "PalmHours$Reader" 86 ⟨"PalmHours$Reader", "readRoad", "()Z"⟩), (797, Cond.instanceMethod ⟨"PalmHours$Reader", "readRoad", "()Z"⟩), (798, Cond.code ⟨"PalmHours$Reader", "readRoad", "()Z"⟩ cX4_readRoad 4 (some .boolean)), (799, Cond.methodLink "PalmHours$Reader" 138 ⟨"PalmHours$Reader", "cornerHere", "()I"⟩), (801, Cond.instanceMethod ⟨"PalmHours$Reader", "cornerHere", "()I"⟩), (802, Cond.code ⟨"PalmHours$Reader", "cornerHere", "()I"⟩ cX4_cornerHere 2 (some .int)), (803, Cond.methodLink "PalmHours$Reader" 141 ⟨"PalmHours$Town", "hasRoad", "(II)Z"⟩), (804, Cond.instanceMethod ⟨"PalmHours$Town", "hasRoad", "(II)Z"⟩), (805, Cond.selects "PalmHours$Town" ⟨"PalmHours$Town", "hasRoad", "(II)Z"⟩ ⟨"PalmHours$Town", "hasRoad", "(II)Z"⟩), (806, Cond.code ⟨"PalmHours$Town", "hasRoad", "(II)Z"⟩ cX9_hasRoad 6 (some .boolean)), (807, Cond.methodLink "PalmHours$Reader" 144 ⟨"PalmHours$Town", "addRoad", "(III)V"⟩), (808, Cond.instanceMethod ⟨"PalmHours$Town", "addRoad", "(III)V"⟩), (809, Cond.selects "PalmHours$Town" ⟨"PalmHours$Town", "addRoad", "(III)V"⟩ ⟨"PalmHours$Town", "addRoad", "(III)V"⟩), (810, Cond.code ⟨"PalmHours$Town", "addRoad", "(III)V"⟩ cX9_addRoad 4 none), (811, Cond.methodLink "PalmHours$Reader" 89 ⟨"PalmHours$Reader", "readPalm", "()Z"⟩), (813, Cond.instanceMethod ⟨"PalmHours$Reader", "readPalm", "()Z"⟩), (814, Cond.code ⟨"PalmHours$Reader", "readPalm", "()Z"⟩ cX4_readPalm 3 (some .boolean)), (815, Cond.methodLink "PalmHours$Reader" 95 ⟨"PalmHours$Reader", "readDoing", "()Z"⟩), (817, Cond.instanceMethod ⟨"PalmHours$Reader", "readDoing", "()Z"⟩), (818, Cond.code ⟨"PalmHours$Reader", "readDoing", "()Z"⟩ cX4_readDoing 4 (some .boolean)), (819, Cond.methodLink "PalmHours$Reader" 158 ⟨"PalmHours$Town", "addDoing", "(III)V"⟩), (820, Cond.instanceMethod ⟨"PalmHours$Town", "addDoing", "(III)V"⟩), (821, Cond.selects "PalmHours$Town" ⟨"PalmHours$Town", "addDoing", "(III)V"⟩ ⟨"PalmHours$Town", "addDoing", "(III)V"⟩)]
theorem bkw4 : pkW lw_tbl 0 bkwl4 = true := by decide +kernel
theorem w713 : Cond.selects "PalmHours$Tape" ⟨"PalmHours$Tape", "at", "(I)I"⟩ ⟨"PalmHours$Tape", "at", "(I)I"⟩ ∈ lw_g := pkW_i bkw4 0 rfl
theorem w714 : Cond.code ⟨"PalmHours$Tape", "at", "(I)I"⟩ cX7_at 2 (some .int) ∈ lw_g := pkW_i bkw4 1 rfl
theorem w715 : Cond.methodLink "PalmHours$Tokens" 80 ⟨"PalmHours$Tokens", "isLetter", "(I)Z"⟩ ∈ lw_g := pkW_i bkw4 2 rfl
theorem w716 : Cond.static ⟨"PalmHours$Tokens", "isLetter", "(I)Z"⟩ ∈ lw_g := pkW_i bkw4 3 rfl
theorem w717 : Cond.code ⟨"PalmHours$Tokens", "isLetter", "(I)Z"⟩ cX8_isLetter 1 (some .boolean) ∈ lw_g := pkW_i bkw4 4 rfl
theorem w718 : Cond.methodLink "PalmHours$Tokens" 84 ⟨"PalmHours$Tokens", "readWord", "()V"⟩ ∈ lw_g := pkW_i bkw4 5 rfl
theorem w720 : Cond.instanceMethod ⟨"PalmHours$Tokens", "readWord", "()V"⟩ ∈ lw_g := pkW_i bkw4 6 rfl
theorem w721 : Cond.code ⟨"PalmHours$Tokens", "readWord", "()V"⟩ cX8_readWord 3 none ∈ lw_g := pkW_i bkw4 7 rfl
theorem w722 : Cond.methodLink "PalmHours$Tokens" 95 ⟨"PalmHours$Tokens", "kindOf", "(I)I"⟩ ∈ lw_g := pkW_i bkw4 8 rfl
theorem w724 : Cond.instanceMethod ⟨"PalmHours$Tokens", "kindOf", "(I)I"⟩ ∈ lw_g := pkW_i bkw4 9 rfl
theorem w725 : Cond.code ⟨"PalmHours$Tokens", "kindOf", "(I)I"⟩ cX8_kindOf 3 (some .int) ∈ lw_g := pkW_i bkw4 10 rfl
theorem w726 : Cond.methodLink "PalmHours$Tokens" 87 ⟨"PalmHours$Tokens", "isDigit", "(I)Z"⟩ ∈ lw_g := pkW_i bkw4 11 rfl
theorem w727 : Cond.static ⟨"PalmHours$Tokens", "isDigit", "(I)Z"⟩ ∈ lw_g := pkW_i bkw4 12 rfl
theorem w728 : Cond.code ⟨"PalmHours$Tokens", "isDigit", "(I)Z"⟩ cX8_isDigit 1 (some .boolean) ∈ lw_g := pkW_i bkw4 13 rfl
theorem w729 : Cond.methodLink "PalmHours$Tokens" 90 ⟨"PalmHours$Tokens", "readNumber", "()V"⟩ ∈ lw_g := pkW_i bkw4 14 rfl
theorem w731 : Cond.instanceMethod ⟨"PalmHours$Tokens", "readNumber", "()V"⟩ ∈ lw_g := pkW_i bkw4 15 rfl
theorem w732 : Cond.code ⟨"PalmHours$Tokens", "readNumber", "()V"⟩ cX8_readNumber 3 none ∈ lw_g := pkW_i bkw4 16 rfl
theorem w733 : Cond.methodLink "PalmHours$Reader" 49 ⟨"PalmHours$Reader", "readStatement", "()Z"⟩ ∈ lw_g := pkW_i bkw4 17 rfl
theorem w735 : Cond.instanceMethod ⟨"PalmHours$Reader", "readStatement", "()Z"⟩ ∈ lw_g := pkW_i bkw4 18 rfl
theorem w736 : Cond.code ⟨"PalmHours$Reader", "readStatement", "()Z"⟩ cX4_readStatement 1 (some .boolean) ∈ lw_g := pkW_i bkw4 19 rfl
theorem w737 : Cond.methodLink "PalmHours$Reader" 70 ⟨"PalmHours$Reader", "skipFirst", "(Z)Z"⟩ ∈ lw_g := pkW_i bkw4 20 rfl
theorem w739 : Cond.instanceMethod ⟨"PalmHours$Reader", "skipFirst", "(Z)Z"⟩ ∈ lw_g := pkW_i bkw4 21 rfl
theorem w740 : Cond.code ⟨"PalmHours$Reader", "skipFirst", "(Z)Z"⟩ cX4_skipFirst 2 (some .boolean) ∈ lw_g := pkW_i bkw4 22 rfl
theorem w741 : Cond.methodLink "PalmHours$Reader" 63 ⟨"PalmHours$Tokens", "fail", "(II)Z"⟩ ∈ lw_g := pkW_i bkw4 23 rfl
theorem w742 : Cond.instanceMethod ⟨"PalmHours$Tokens", "fail", "(II)Z"⟩ ∈ lw_g := pkW_i bkw4 24 rfl
theorem w743 : Cond.selects "PalmHours$Tokens" ⟨"PalmHours$Tokens", "fail", "(II)Z"⟩ ⟨"PalmHours$Tokens", "fail", "(II)Z"⟩ ∈ lw_g := pkW_i bkw4 25 rfl
theorem w744 : Cond.code ⟨"PalmHours$Tokens", "fail", "(II)Z"⟩ cX8_fail 3 (some .boolean) ∈ lw_g := pkW_i bkw4 26 rfl
theorem w745 : Cond.methodLink "PalmHours$Reader" 119 ⟨"PalmHours$Tokens", "advance", "()V"⟩ ∈ lw_g := pkW_i bkw4 27 rfl
theorem w746 : Cond.methodLink "PalmHours$Reader" 74 ⟨"PalmHours$Reader", "readThing", "()Z"⟩ ∈ lw_g := pkW_i bkw4 28 rfl
theorem w748 : Cond.instanceMethod ⟨"PalmHours$Reader", "readThing", "()Z"⟩ ∈ lw_g := pkW_i bkw4 29 rfl
theorem w749 : Cond.code ⟨"PalmHours$Reader", "readThing", "()Z"⟩ cX4_readThing 4 (some .boolean) ∈ lw_g := pkW_i bkw4 30 rfl
theorem w750 : Cond.methodLink "PalmHours$Reader" 122 ⟨"PalmHours$Reader", "newName", "()I"⟩ ∈ lw_g := pkW_i bkw4 31 rfl
theorem w752 : Cond.instanceMethod ⟨"PalmHours$Reader", "newName", "()I"⟩ ∈ lw_g := pkW_i bkw4 32 rfl
theorem w753 : Cond.code ⟨"PalmHours$Reader", "newName", "()I"⟩ cX4_newName 2 (some .int) ∈ lw_g := pkW_i bkw4 33 rfl
theorem w754 : Cond.methodLink "PalmHours$Reader" 116 ⟨"PalmHours$Tokens", "failHere", "()Z"⟩ ∈ lw_g := pkW_i bkw4 34 rfl
theorem w755 : Cond.instanceMethod ⟨"PalmHours$Tokens", "failHere", "()Z"⟩ ∈ lw_g := pkW_i bkw4 35 rfl
theorem w756 : Cond.selects "PalmHours$Tokens" ⟨"PalmHours$Tokens", "failHere", "()Z"⟩ ⟨"PalmHours$Tokens", "failHere", "()Z"⟩ ∈ lw_g := pkW_i bkw4 36 rfl
theorem w757 : Cond.code ⟨"PalmHours$Tokens", "failHere", "()Z"⟩ cX8_failHere 1 (some .boolean) ∈ lw_g := pkW_i bkw4 37 rfl
theorem w758 : Cond.methodLink "PalmHours$Tokens" 60 ⟨"PalmHours$Tokens", "fail", "(II)Z"⟩ ∈ lw_g := pkW_i bkw4 38 rfl
theorem w759 : Cond.methodLink "PalmHours$Reader" 154 ⟨"PalmHours$Town", "findThing", "(I)I"⟩ ∈ lw_g := pkW_i bkw4 39 rfl
theorem w760 : Cond.instanceMethod ⟨"PalmHours$Town", "findThing", "(I)I"⟩ ∈ lw_g := pkW_i bkw4 40 rfl
theorem w761 : Cond.selects "PalmHours$Town" ⟨"PalmHours$Town", "findThing", "(I)I"⟩ ⟨"PalmHours$Town", "findThing", "(I)I"⟩ ∈ lw_g := pkW_i bkw4 41 rfl
theorem w762 : Cond.code ⟨"PalmHours$Town", "findThing", "(I)I"⟩ cX9_findThing 2 (some .int) ∈ lw_g := pkW_i bkw4 42 rfl
theorem w763 : Cond.methodLink "PalmHours$Town" 77 ⟨"PalmHours$Town", "find", "([III)I"⟩ ∈ lw_g := pkW_i bkw4 43 rfl
theorem w764 : Cond.static ⟨"PalmHours$Town", "find", "([III)I"⟩ ∈ lw_g := pkW_i bkw4 44 rfl
theorem w765 : Cond.code ⟨"PalmHours$Town", "find", "([III)I"⟩ cX9_find 4 (some .int) ∈ lw_g := pkW_i bkw4 45 rfl
theorem w766 : Cond.methodLink "PalmHours$Reader" 164 ⟨"PalmHours$Town", "findCorner", "(I)I"⟩ ∈ lw_g := pkW_i bkw4 46 rfl
theorem w767 : Cond.instanceMethod ⟨"PalmHours$Town", "findCorner", "(I)I"⟩ ∈ lw_g := pkW_i bkw4 47 rfl
theorem w768 : Cond.selects "PalmHours$Town" ⟨"PalmHours$Town", "findCorner", "(I)I"⟩ ⟨"PalmHours$Town", "findCorner", "(I)I"⟩ ∈ lw_g := pkW_i bkw4 48 rfl
theorem w769 : Cond.code ⟨"PalmHours$Town", "findCorner", "(I)I"⟩ cX9_findCorner 2 (some .int) ∈ lw_g := pkW_i bkw4 49 rfl
theorem w770 : Cond.methodLink "PalmHours$Reader" 167 ⟨"PalmHours$Town", "findDoing", "(I)I"⟩ ∈ lw_g := pkW_i bkw4 50 rfl
theorem w771 : Cond.instanceMethod ⟨"PalmHours$Town", "findDoing", "(I)I"⟩ ∈ lw_g := pkW_i bkw4 51 rfl
theorem w772 : Cond.selects "PalmHours$Town" ⟨"PalmHours$Town", "findDoing", "(I)I"⟩ ⟨"PalmHours$Town", "findDoing", "(I)I"⟩ ∈ lw_g := pkW_i bkw4 52 rfl
theorem w773 : Cond.code ⟨"PalmHours$Town", "findDoing", "(I)I"⟩ cX9_findDoing 2 (some .int) ∈ lw_g := pkW_i bkw4 53 rfl
theorem w774 : Cond.methodLink "PalmHours$Reader" 53 ⟨"PalmHours$Tokens", "skip", "(I)Z"⟩ ∈ lw_g := pkW_i bkw4 54 rfl
theorem w775 : Cond.instanceMethod ⟨"PalmHours$Tokens", "skip", "(I)Z"⟩ ∈ lw_g := pkW_i bkw4 55 rfl
theorem w776 : Cond.selects "PalmHours$Tokens" ⟨"PalmHours$Tokens", "skip", "(I)Z"⟩ ⟨"PalmHours$Tokens", "skip", "(I)Z"⟩ ∈ lw_g := pkW_i bkw4 56 rfl
theorem w777 : Cond.code ⟨"PalmHours$Tokens", "skip", "(I)Z"⟩ cX8_skip 2 (some .boolean) ∈ lw_g := pkW_i bkw4 57 rfl
theorem w778 : Cond.methodLink "PalmHours$Tokens" 64 ⟨"PalmHours$Tokens", "failHere", "()Z"⟩ ∈ lw_g := pkW_i bkw4 58 rfl
theorem w779 : Cond.methodLink "PalmHours$Reader" 126 ⟨"PalmHours$Reader", "number", "(II)I"⟩ ∈ lw_g := pkW_i bkw4 59 rfl
theorem w781 : Cond.instanceMethod ⟨"PalmHours$Reader", "number", "(II)I"⟩ ∈ lw_g := pkW_i bkw4 60 rfl
theorem w782 : Cond.code ⟨"PalmHours$Reader", "number", "(II)I"⟩ cX4_number 4 (some .int) ∈ lw_g := pkW_i bkw4 61 rfl
theorem w783 : Cond.methodLink "PalmHours$Reader" 130 ⟨"PalmHours$Town", "addThing", "(III)V"⟩ ∈ lw_g := pkW_i bkw4 62 rfl
theorem w784 : Cond.instanceMethod ⟨"PalmHours$Town", "addThing", "(III)V"⟩ ∈ lw_g := pkW_i bkw4 63 rfl
theorem w785 : Cond.selects "PalmHours$Town" ⟨"PalmHours$Town", "addThing", "(III)V"⟩ ⟨"PalmHours$Town", "addThing", "(III)V"⟩ ∈ lw_g := pkW_i bkw4 64 rfl
theorem w786 : Cond.code ⟨"PalmHours$Town", "addThing", "(III)V"⟩ cX9_addThing 4 none ∈ lw_g := pkW_i bkw4 65 rfl
theorem w787 : Cond.methodLink "PalmHours$Reader" 80 ⟨"PalmHours$Reader", "readCorner", "()Z"⟩ ∈ lw_g := pkW_i bkw4 66 rfl
theorem w789 : Cond.instanceMethod ⟨"PalmHours$Reader", "readCorner", "()Z"⟩ ∈ lw_g := pkW_i bkw4 67 rfl
theorem w790 : Cond.code ⟨"PalmHours$Reader", "readCorner", "()Z"⟩ cX4_readCorner 2 (some .boolean) ∈ lw_g := pkW_i bkw4 68 rfl
theorem w791 : Cond.methodLink "PalmHours$Reader" 134 ⟨"PalmHours$Town", "addCorner", "(I)V"⟩ ∈ lw_g := pkW_i bkw4 69 rfl
theorem w792 : Cond.instanceMethod ⟨"PalmHours$Town", "addCorner", "(I)V"⟩ ∈ lw_g := pkW_i bkw4 70 rfl
theorem w793 : Cond.selects "PalmHours$Town" ⟨"PalmHours$Town", "addCorner", "(I)V"⟩ ⟨"PalmHours$Town", "addCorner", "(I)V"⟩ ∈ lw_g := pkW_i bkw4 71 rfl
theorem w794 : Cond.code ⟨"PalmHours$Town", "addCorner", "(I)V"⟩ cX9_addCorner 2 none ∈ lw_g := pkW_i bkw4 72 rfl
theorem w795 : Cond.methodLink "PalmHours$Reader" 86 ⟨"PalmHours$Reader", "readRoad", "()Z"⟩ ∈ lw_g := pkW_i bkw4 73 rfl
theorem w797 : Cond.instanceMethod ⟨"PalmHours$Reader", "readRoad", "()Z"⟩ ∈ lw_g := pkW_i bkw4 74 rfl
theorem w798 : Cond.code ⟨"PalmHours$Reader", "readRoad", "()Z"⟩ cX4_readRoad 4 (some .boolean) ∈ lw_g := pkW_i bkw4 75 rfl
theorem w799 : Cond.methodLink "PalmHours$Reader" 138 ⟨"PalmHours$Reader", "cornerHere", "()I"⟩ ∈ lw_g := pkW_i bkw4 76 rfl
theorem w801 : Cond.instanceMethod ⟨"PalmHours$Reader", "cornerHere", "()I"⟩ ∈ lw_g := pkW_i bkw4 77 rfl
theorem w802 : Cond.code ⟨"PalmHours$Reader", "cornerHere", "()I"⟩ cX4_cornerHere 2 (some .int) ∈ lw_g := pkW_i bkw4 78 rfl
theorem w803 : Cond.methodLink "PalmHours$Reader" 141 ⟨"PalmHours$Town", "hasRoad", "(II)Z"⟩ ∈ lw_g := pkW_i bkw4 79 rfl
theorem w804 : Cond.instanceMethod ⟨"PalmHours$Town", "hasRoad", "(II)Z"⟩ ∈ lw_g := pkW_i bkw4 80 rfl
theorem w805 : Cond.selects "PalmHours$Town" ⟨"PalmHours$Town", "hasRoad", "(II)Z"⟩ ⟨"PalmHours$Town", "hasRoad", "(II)Z"⟩ ∈ lw_g := pkW_i bkw4 81 rfl
theorem w806 : Cond.code ⟨"PalmHours$Town", "hasRoad", "(II)Z"⟩ cX9_hasRoad 6 (some .boolean) ∈ lw_g := pkW_i bkw4 82 rfl
theorem w807 : Cond.methodLink "PalmHours$Reader" 144 ⟨"PalmHours$Town", "addRoad", "(III)V"⟩ ∈ lw_g := pkW_i bkw4 83 rfl
theorem w808 : Cond.instanceMethod ⟨"PalmHours$Town", "addRoad", "(III)V"⟩ ∈ lw_g := pkW_i bkw4 84 rfl
theorem w809 : Cond.selects "PalmHours$Town" ⟨"PalmHours$Town", "addRoad", "(III)V"⟩ ⟨"PalmHours$Town", "addRoad", "(III)V"⟩ ∈ lw_g := pkW_i bkw4 85 rfl
theorem w810 : Cond.code ⟨"PalmHours$Town", "addRoad", "(III)V"⟩ cX9_addRoad 4 none ∈ lw_g := pkW_i bkw4 86 rfl
theorem w811 : Cond.methodLink "PalmHours$Reader" 89 ⟨"PalmHours$Reader", "readPalm", "()Z"⟩ ∈ lw_g := pkW_i bkw4 87 rfl
theorem w813 : Cond.instanceMethod ⟨"PalmHours$Reader", "readPalm", "()Z"⟩ ∈ lw_g := pkW_i bkw4 88 rfl
theorem w814 : Cond.code ⟨"PalmHours$Reader", "readPalm", "()Z"⟩ cX4_readPalm 3 (some .boolean) ∈ lw_g := pkW_i bkw4 89 rfl
theorem w815 : Cond.methodLink "PalmHours$Reader" 95 ⟨"PalmHours$Reader", "readDoing", "()Z"⟩ ∈ lw_g := pkW_i bkw4 90 rfl
theorem w817 : Cond.instanceMethod ⟨"PalmHours$Reader", "readDoing", "()Z"⟩ ∈ lw_g := pkW_i bkw4 91 rfl
theorem w818 : Cond.code ⟨"PalmHours$Reader", "readDoing", "()Z"⟩ cX4_readDoing 4 (some .boolean) ∈ lw_g := pkW_i bkw4 92 rfl
theorem w819 : Cond.methodLink "PalmHours$Reader" 158 ⟨"PalmHours$Town", "addDoing", "(III)V"⟩ ∈ lw_g := pkW_i bkw4 93 rfl
theorem w820 : Cond.instanceMethod ⟨"PalmHours$Town", "addDoing", "(III)V"⟩ ∈ lw_g := pkW_i bkw4 94 rfl
theorem w821 : Cond.selects "PalmHours$Town" ⟨"PalmHours$Town", "addDoing", "(III)V"⟩ ⟨"PalmHours$Town", "addDoing", "(III)V"⟩ ∈ lw_g := pkW_i bkw4 95 rfl
def bkwl5 : List (Nat × Cond) := [(822, Cond.code ⟨"PalmHours$Town", "addDoing", "(III)V"⟩ cX9_addDoing 4 none), (823, Cond.methodLink "PalmHours$Reader" 98 ⟨"PalmHours$Formula", "isTold", "()Z"⟩), (824, Cond.methodLink "PalmHours$Reader" 103 ⟨"PalmHours$Phrases", "readSays", "(LPalmHours$Formula;)Z"⟩), (825, Cond.instanceMethod ⟨"PalmHours$Phrases", "readSays", "(LPalmHours$Formula;)Z"⟩), (826, Cond.selects "PalmHours$Phrases" ⟨"PalmHours$Phrases", "readSays", "(LPalmHours$Formula;)Z"⟩ ⟨"PalmHours$Phrases", "readSays", "(LPalmHours$Formula;)Z"⟩), (827, Cond.code ⟨"PalmHours$Phrases", "readSays", "(LPalmHours$Formula;)Z"⟩ cX3_readSays 2 (some .boolean)), (828, Cond.methodLink "PalmHours$Phrases" 23 ⟨"PalmHours$Phrases", "readSum", "(I)Z"⟩), (830, Cond.instanceMethod ⟨"PalmHours$Phrases", "readSum", "(I)Z"⟩), (831, Cond.code ⟨"PalmHours$Phrases", "readSum", "(I)Z"⟩ cX3_readSum 4 (some .boolean)), (832, Cond.methodLink "PalmHours$Phrases" 56 ⟨"PalmHours$Phrases", "readProduct", "(I)Z"⟩), (834, Cond.instanceMethod ⟨"PalmHours$Phrases", "readProduct", "(I)Z"⟩), (835, Cond.code ⟨"PalmHours$Phrases", "readProduct", "(I)Z"⟩ cX3_readProduct 4 (some .boolean)), (836, Cond.methodLink "PalmHours$Phrases" 63 ⟨"PalmHours$Phrases", "readPart", "(I)Z"⟩), (838, Cond.instanceMethod ⟨"PalmHours$Phrases", "readPart", "(I)Z"⟩), (839, Cond.code ⟨"PalmHours$Phrases", "readPart", "(I)Z"⟩ cX3_readPart 2 (some .boolean)), (840, Cond.methodLink "PalmHours$Phrases" 72 ⟨"PalmHours$Phrases", "addAndAdvance", "(I)Z"⟩), (842, Cond.instanceMethod ⟨"PalmHours$Phrases", "addAndAdvance", "(I)Z"⟩), (843, Cond.code ⟨"PalmHours$Phrases", "addAndAdvance", "(I)Z"⟩ cX3_addAndAdvance 2 (some .boolean)), (844, Cond.methodLink "PalmHours$Phrases" 50 ⟨"PalmHours$Formula", "add", "(I)V"⟩), (845, Cond.instanceMethod ⟨"PalmHours$Formula", "add", "(I)V"⟩), (846, Cond.selects "PalmHours$Formula" ⟨"PalmHours$Formula", "add", "(I)V"⟩ ⟨"PalmHours$Formula", "add", "(I)V"⟩), (847, Cond.code ⟨"PalmHours$Formula", "add", "(I)V"⟩ cX0_add 2 none), (848, Cond.methodLink "PalmHours$Phrases" 47 ⟨"PalmHours$Tokens", "advance", "()V"⟩), (849, Cond.methodLink "PalmHours$Phrases" 36 ⟨"PalmHours$Tokens", "failHere", "()Z"⟩), (850, Cond.methodLink "PalmHours$Phrases" 75 ⟨"PalmHours$Phrases", "readPair", "(II)Z"⟩), (852, Cond.instanceMethod ⟨"PalmHours$Phrases", "readPair", "(II)Z"⟩), (853, Cond.code ⟨"PalmHours$Phrases", "readPair", "(II)Z"⟩ cX3_readPair 3 (some .boolean)), (854, Cond.methodLink "PalmHours$Phrases" 81 ⟨"PalmHours$Phrases", "goIn", "(II)Z"⟩), (856, Cond.instanceMethod ⟨"PalmHours$Phrases", "goIn", "(II)Z"⟩), (857, Cond.code ⟨"PalmHours$Phrases", "goIn", "(II)Z"⟩ cX3_goIn 3 (some .boolean)), (858, Cond.methodLink "PalmHours$Phrases" 43 ⟨"PalmHours$Tokens", "fail", "(II)Z"⟩), (859, Cond.methodLink "PalmHours$Phrases" 84 ⟨"PalmHours$Tokens", "skip", "(I)Z"⟩), (860, Cond.methodLink "PalmHours$Phrases" 87 ⟨"PalmHours$Phrases", "add", "(I)Z"⟩), (862, Cond.instanceMethod ⟨"PalmHours$Phrases", "add", "(I)Z"⟩), (863, Cond.code ⟨"PalmHours$Phrases", "add", "(I)Z"⟩ cX3_add 2 (some .boolean)), (864, Cond.methodLink "PalmHours$Phrases" 78 ⟨"PalmHours$Phrases", "readChoice", "(I)Z"⟩), (866, Cond.instanceMethod ⟨"PalmHours$Phrases", "readChoice", "(I)Z"⟩), (867, Cond.code ⟨"PalmHours$Phrases", "readChoice", "(I)Z"⟩ cX3_readChoice 2 (some .boolean)), (868, Cond.methodLink "PalmHours$Phrases" 27 ⟨"PalmHours$Phrases", "readTest", "(I)Z"⟩), (870, Cond.instanceMethod ⟨"PalmHours$Phrases", "readTest", "(I)Z"⟩), (871, Cond.code ⟨"PalmHours$Phrases", "readTest", "(I)Z"⟩ cX3_readTest 3 (some .boolean)), (872, Cond.methodLink "PalmHours$Phrases" 89 ⟨"PalmHours$Phrases", "readBoth", "(I)Z"⟩), (874, Cond.instanceMethod ⟨"PalmHours$Phrases", "readBoth", "(I)Z"⟩), (875, Cond.code ⟨"PalmHours$Phrases", "readBoth", "(I)Z"⟩ cX3_readBoth 3 (some .boolean)), (876, Cond.methodLink "PalmHours$Phrases" 92 ⟨"PalmHours$Phrases", "readFact", "(I)Z"⟩), (878, Cond.instanceMethod ⟨"PalmHours$Phrases", "readFact", "(I)Z"⟩), (879, Cond.code ⟨"PalmHours$Phrases", "readFact", "(I)Z"⟩ cX3_readFact 2 (some .boolean)), (880, Cond.methodLink "PalmHours$Phrases" 95 ⟨"PalmHours$Phrases", "readComparison", "(I)Z"⟩), (882, Cond.instanceMethod ⟨"PalmHours$Phrases", "readComparison", "(I)Z"⟩), (883, Cond.code ⟨"PalmHours$Phrases", "readComparison", "(I)Z"⟩ cX3_readComparison 3 (some .boolean)), (884, Cond.methodLink "PalmHours$Phrases" 98 ⟨"PalmHours$Phrases", "comparisonStep", "()I"⟩), (886, Cond.instanceMethod ⟨"PalmHours$Phrases", "comparisonStep", "()I"⟩), (887, Cond.code ⟨"PalmHours$Phrases", "comparisonStep", "()I"⟩ cX3_comparisonStep 1 (some .int)), (888, Cond.methodLink "PalmHours$Phrases" 66 ⟨"PalmHours$Phrases", "productStep", "()I"⟩), (890, Cond.instanceMethod ⟨"PalmHours$Phrases", "productStep", "()I"⟩), (891, Cond.code ⟨"PalmHours$Phrases", "productStep", "()I"⟩ cX3_productStep 1 (some .int)), (892, Cond.methodLink "PalmHours$Phrases" 59 ⟨"PalmHours$Phrases", "sumStep", "()I"⟩), (894, Cond.instanceMethod ⟨"PalmHours$Phrases", "sumStep", "()I"⟩), (895, Cond.code ⟨"PalmHours$Phrases", "sumStep", "()I"⟩ cX3_sumStep 1 (some .int)), (896, Cond.methodLink "PalmHours$Reader" 110 ⟨"PalmHours$Phrases", "readGone", "(LPalmHours$Formula;)Z"⟩), (897, Cond.instanceMethod ⟨"PalmHours$Phrases", "readGone", "(LPalmHours$Formula;)Z"⟩), (898, Cond.selects "PalmHours$Phrases" ⟨"PalmHours$Phrases", "readGone", "(LPalmHours$Formula;)Z"⟩ ⟨"PalmHours$Phrases", "readGone", "(LPalmHours$Formula;)Z"⟩), (899, Cond.code ⟨"PalmHours$Phrases", "readGone", "(LPalmHours$Formula;)Z"⟩ cX3_readGone 2 (some .boolean)), (900, Cond.methodLink "PalmHours$Reader" 113 ⟨"PalmHours$Reader", "readPass", "()Z"⟩), (902, Cond.instanceMethod ⟨"PalmHours$Reader", "readPass", "()Z"⟩), (903, Cond.code ⟨"PalmHours$Reader", "readPass", "()Z"⟩ cX4_readPass 2 (some .boolean)), (912, Cond.methodLink "PalmHours" 151 ⟨"PalmHours$State", "countDone", "()I"⟩), (913, Cond.instanceMethod ⟨"PalmHours$State", "countDone", "()I"⟩), (914, Cond.selects "PalmHours$State" ⟨"PalmHours$State", "countDone", "()I"⟩ ⟨"PalmHours$State", "countDone", "()I"⟩), (915, Cond.code ⟨"PalmHours$State", "countDone", "()I"⟩ cX6_countDone 3 (some .int)), (916, Cond.methodLink "PalmHours" 155 ⟨"PalmHours$State", "countEmpty", "()I"⟩), (917, Cond.instanceMethod ⟨"PalmHours$State", "countEmpty", "()I"⟩), (918, Cond.selects "PalmHours$State" ⟨"PalmHours$State", "countEmpty", "()I"⟩ ⟨"PalmHours$State", "countEmpty", "()I"⟩), (919, Cond.code ⟨"PalmHours$State", "countEmpty", "()I"⟩ cX6_countEmpty 3 (some .int)), (924, Cond.methodLink "PalmHours" 165 ⟨"PalmHours$Town", "isThing", "(I)Z"⟩), (925, Cond.methodLink "PalmHours" 171 ⟨"PalmHours$Tokens", "letterOf", "(II)I"⟩), (926, Cond.static ⟨"PalmHours$Tokens", "letterOf", "(II)I"⟩), (927, Cond.code ⟨"PalmHours$Tokens", "letterOf", "(II)I"⟩ cX8_letterOf 4 (some .int)), (928, Cond.methodLink "PalmHours" 175 ⟨"PalmHours$Town", "isCorner", "(I)Z"⟩), (929, Cond.instanceMethod ⟨"PalmHours$Town", "isCorner", "(I)Z"⟩), (930, Cond.selects "PalmHours$Town" ⟨"PalmHours$Town", "isCorner", "(I)Z"⟩ ⟨"PalmHours$Town", "isCorner", "(I)Z"⟩), (931, Cond.code ⟨"PalmHours$Town", "isCorner", "(I)Z"⟩ cX9_isCorner 2 (some .boolean)), (932, Cond.methodLink "PalmHours" 181 ⟨"PalmHours$Town", "isDoing", "(I)Z"⟩), (933, Cond.instanceMethod ⟨"PalmHours$Town", "isDoing", "(I)Z"⟩), (934, Cond.selects "PalmHours$Town" ⟨"PalmHours$Town", "isDoing", "(I)Z"⟩ ⟨"PalmHours$Town", "isDoing", "(I)Z"⟩), (935, Cond.code ⟨"PalmHours$Town", "isDoing", "(I)Z"⟩ cX9_isDoing 2 (some .boolean)), (944, Cond.methodLink "PalmHours" 198 ⟨"PalmHours", "hourAt", "(I)I"⟩), (946, Cond.instanceMethod ⟨"PalmHours", "hourAt", "(I)I"⟩), (947, Cond.code ⟨"PalmHours", "hourAt", "(I)I"⟩ cX11_hourAt 2 (some .int)), (948, Cond.methodLink "PalmHours" 237 ⟨"PalmHours", "lookAt", "(I)V"⟩), (950, Cond.instanceMethod ⟨"PalmHours", "lookAt", "(I)V"⟩), (951, Cond.code ⟨"PalmHours", "lookAt", "(I)V"⟩ cX11_lookAt 2 none), (952, Cond.methodLink "PalmHours" 317 ⟨"PalmHours$Palm", "hold", "(IIII)V"⟩), (953, Cond.methodLink "PalmHours" 321 ⟨"PalmHours$Palm", "hourNow", "()I"⟩), (962, Cond.methodLink "PalmHours" 210 ⟨"PalmHours", "isBeyond", "(I)Z"⟩), (964, Cond.instanceMethod ⟨"PalmHours", "isBeyond", "(I)Z"⟩)]
theorem bkw5 : pkW lw_tbl 0 bkwl5 = true := by decide +kernel
theorem w822 : Cond.code ⟨"PalmHours$Town", "addDoing", "(III)V"⟩ cX9_addDoing 4 none ∈ lw_g := pkW_i bkw5 0 rfl
theorem w823 : Cond.methodLink "PalmHours$Reader" 98 ⟨"PalmHours$Formula", "isTold", "()Z"⟩ ∈ lw_g := pkW_i bkw5 1 rfl
theorem w824 : Cond.methodLink "PalmHours$Reader" 103 ⟨"PalmHours$Phrases", "readSays", "(LPalmHours$Formula;)Z"⟩ ∈ lw_g := pkW_i bkw5 2 rfl
theorem w825 : Cond.instanceMethod ⟨"PalmHours$Phrases", "readSays", "(LPalmHours$Formula;)Z"⟩ ∈ lw_g := pkW_i bkw5 3 rfl
theorem w826 : Cond.selects "PalmHours$Phrases" ⟨"PalmHours$Phrases", "readSays", "(LPalmHours$Formula;)Z"⟩ ⟨"PalmHours$Phrases", "readSays", "(LPalmHours$Formula;)Z"⟩ ∈ lw_g := pkW_i bkw5 4 rfl
theorem w827 : Cond.code ⟨"PalmHours$Phrases", "readSays", "(LPalmHours$Formula;)Z"⟩ cX3_readSays 2 (some .boolean) ∈ lw_g := pkW_i bkw5 5 rfl
theorem w828 : Cond.methodLink "PalmHours$Phrases" 23 ⟨"PalmHours$Phrases", "readSum", "(I)Z"⟩ ∈ lw_g := pkW_i bkw5 6 rfl
theorem w830 : Cond.instanceMethod ⟨"PalmHours$Phrases", "readSum", "(I)Z"⟩ ∈ lw_g := pkW_i bkw5 7 rfl
theorem w831 : Cond.code ⟨"PalmHours$Phrases", "readSum", "(I)Z"⟩ cX3_readSum 4 (some .boolean) ∈ lw_g := pkW_i bkw5 8 rfl
theorem w832 : Cond.methodLink "PalmHours$Phrases" 56 ⟨"PalmHours$Phrases", "readProduct", "(I)Z"⟩ ∈ lw_g := pkW_i bkw5 9 rfl
theorem w834 : Cond.instanceMethod ⟨"PalmHours$Phrases", "readProduct", "(I)Z"⟩ ∈ lw_g := pkW_i bkw5 10 rfl
theorem w835 : Cond.code ⟨"PalmHours$Phrases", "readProduct", "(I)Z"⟩ cX3_readProduct 4 (some .boolean) ∈ lw_g := pkW_i bkw5 11 rfl
theorem w836 : Cond.methodLink "PalmHours$Phrases" 63 ⟨"PalmHours$Phrases", "readPart", "(I)Z"⟩ ∈ lw_g := pkW_i bkw5 12 rfl
theorem w838 : Cond.instanceMethod ⟨"PalmHours$Phrases", "readPart", "(I)Z"⟩ ∈ lw_g := pkW_i bkw5 13 rfl
theorem w839 : Cond.code ⟨"PalmHours$Phrases", "readPart", "(I)Z"⟩ cX3_readPart 2 (some .boolean) ∈ lw_g := pkW_i bkw5 14 rfl
theorem w840 : Cond.methodLink "PalmHours$Phrases" 72 ⟨"PalmHours$Phrases", "addAndAdvance", "(I)Z"⟩ ∈ lw_g := pkW_i bkw5 15 rfl
theorem w842 : Cond.instanceMethod ⟨"PalmHours$Phrases", "addAndAdvance", "(I)Z"⟩ ∈ lw_g := pkW_i bkw5 16 rfl
theorem w843 : Cond.code ⟨"PalmHours$Phrases", "addAndAdvance", "(I)Z"⟩ cX3_addAndAdvance 2 (some .boolean) ∈ lw_g := pkW_i bkw5 17 rfl
theorem w844 : Cond.methodLink "PalmHours$Phrases" 50 ⟨"PalmHours$Formula", "add", "(I)V"⟩ ∈ lw_g := pkW_i bkw5 18 rfl
theorem w845 : Cond.instanceMethod ⟨"PalmHours$Formula", "add", "(I)V"⟩ ∈ lw_g := pkW_i bkw5 19 rfl
theorem w846 : Cond.selects "PalmHours$Formula" ⟨"PalmHours$Formula", "add", "(I)V"⟩ ⟨"PalmHours$Formula", "add", "(I)V"⟩ ∈ lw_g := pkW_i bkw5 20 rfl
theorem w847 : Cond.code ⟨"PalmHours$Formula", "add", "(I)V"⟩ cX0_add 2 none ∈ lw_g := pkW_i bkw5 21 rfl
theorem w848 : Cond.methodLink "PalmHours$Phrases" 47 ⟨"PalmHours$Tokens", "advance", "()V"⟩ ∈ lw_g := pkW_i bkw5 22 rfl
theorem w849 : Cond.methodLink "PalmHours$Phrases" 36 ⟨"PalmHours$Tokens", "failHere", "()Z"⟩ ∈ lw_g := pkW_i bkw5 23 rfl
theorem w850 : Cond.methodLink "PalmHours$Phrases" 75 ⟨"PalmHours$Phrases", "readPair", "(II)Z"⟩ ∈ lw_g := pkW_i bkw5 24 rfl
theorem w852 : Cond.instanceMethod ⟨"PalmHours$Phrases", "readPair", "(II)Z"⟩ ∈ lw_g := pkW_i bkw5 25 rfl
theorem w853 : Cond.code ⟨"PalmHours$Phrases", "readPair", "(II)Z"⟩ cX3_readPair 3 (some .boolean) ∈ lw_g := pkW_i bkw5 26 rfl
theorem w854 : Cond.methodLink "PalmHours$Phrases" 81 ⟨"PalmHours$Phrases", "goIn", "(II)Z"⟩ ∈ lw_g := pkW_i bkw5 27 rfl
theorem w856 : Cond.instanceMethod ⟨"PalmHours$Phrases", "goIn", "(II)Z"⟩ ∈ lw_g := pkW_i bkw5 28 rfl
theorem w857 : Cond.code ⟨"PalmHours$Phrases", "goIn", "(II)Z"⟩ cX3_goIn 3 (some .boolean) ∈ lw_g := pkW_i bkw5 29 rfl
theorem w858 : Cond.methodLink "PalmHours$Phrases" 43 ⟨"PalmHours$Tokens", "fail", "(II)Z"⟩ ∈ lw_g := pkW_i bkw5 30 rfl
theorem w859 : Cond.methodLink "PalmHours$Phrases" 84 ⟨"PalmHours$Tokens", "skip", "(I)Z"⟩ ∈ lw_g := pkW_i bkw5 31 rfl
theorem w860 : Cond.methodLink "PalmHours$Phrases" 87 ⟨"PalmHours$Phrases", "add", "(I)Z"⟩ ∈ lw_g := pkW_i bkw5 32 rfl
theorem w862 : Cond.instanceMethod ⟨"PalmHours$Phrases", "add", "(I)Z"⟩ ∈ lw_g := pkW_i bkw5 33 rfl
theorem w863 : Cond.code ⟨"PalmHours$Phrases", "add", "(I)Z"⟩ cX3_add 2 (some .boolean) ∈ lw_g := pkW_i bkw5 34 rfl
theorem w864 : Cond.methodLink "PalmHours$Phrases" 78 ⟨"PalmHours$Phrases", "readChoice", "(I)Z"⟩ ∈ lw_g := pkW_i bkw5 35 rfl
theorem w866 : Cond.instanceMethod ⟨"PalmHours$Phrases", "readChoice", "(I)Z"⟩ ∈ lw_g := pkW_i bkw5 36 rfl
theorem w867 : Cond.code ⟨"PalmHours$Phrases", "readChoice", "(I)Z"⟩ cX3_readChoice 2 (some .boolean) ∈ lw_g := pkW_i bkw5 37 rfl
theorem w868 : Cond.methodLink "PalmHours$Phrases" 27 ⟨"PalmHours$Phrases", "readTest", "(I)Z"⟩ ∈ lw_g := pkW_i bkw5 38 rfl
theorem w870 : Cond.instanceMethod ⟨"PalmHours$Phrases", "readTest", "(I)Z"⟩ ∈ lw_g := pkW_i bkw5 39 rfl
theorem w871 : Cond.code ⟨"PalmHours$Phrases", "readTest", "(I)Z"⟩ cX3_readTest 3 (some .boolean) ∈ lw_g := pkW_i bkw5 40 rfl
theorem w872 : Cond.methodLink "PalmHours$Phrases" 89 ⟨"PalmHours$Phrases", "readBoth", "(I)Z"⟩ ∈ lw_g := pkW_i bkw5 41 rfl
theorem w874 : Cond.instanceMethod ⟨"PalmHours$Phrases", "readBoth", "(I)Z"⟩ ∈ lw_g := pkW_i bkw5 42 rfl
theorem w875 : Cond.code ⟨"PalmHours$Phrases", "readBoth", "(I)Z"⟩ cX3_readBoth 3 (some .boolean) ∈ lw_g := pkW_i bkw5 43 rfl
theorem w876 : Cond.methodLink "PalmHours$Phrases" 92 ⟨"PalmHours$Phrases", "readFact", "(I)Z"⟩ ∈ lw_g := pkW_i bkw5 44 rfl
theorem w878 : Cond.instanceMethod ⟨"PalmHours$Phrases", "readFact", "(I)Z"⟩ ∈ lw_g := pkW_i bkw5 45 rfl
theorem w879 : Cond.code ⟨"PalmHours$Phrases", "readFact", "(I)Z"⟩ cX3_readFact 2 (some .boolean) ∈ lw_g := pkW_i bkw5 46 rfl
theorem w880 : Cond.methodLink "PalmHours$Phrases" 95 ⟨"PalmHours$Phrases", "readComparison", "(I)Z"⟩ ∈ lw_g := pkW_i bkw5 47 rfl
theorem w882 : Cond.instanceMethod ⟨"PalmHours$Phrases", "readComparison", "(I)Z"⟩ ∈ lw_g := pkW_i bkw5 48 rfl
theorem w883 : Cond.code ⟨"PalmHours$Phrases", "readComparison", "(I)Z"⟩ cX3_readComparison 3 (some .boolean) ∈ lw_g := pkW_i bkw5 49 rfl
theorem w884 : Cond.methodLink "PalmHours$Phrases" 98 ⟨"PalmHours$Phrases", "comparisonStep", "()I"⟩ ∈ lw_g := pkW_i bkw5 50 rfl
theorem w886 : Cond.instanceMethod ⟨"PalmHours$Phrases", "comparisonStep", "()I"⟩ ∈ lw_g := pkW_i bkw5 51 rfl
theorem w887 : Cond.code ⟨"PalmHours$Phrases", "comparisonStep", "()I"⟩ cX3_comparisonStep 1 (some .int) ∈ lw_g := pkW_i bkw5 52 rfl
theorem w888 : Cond.methodLink "PalmHours$Phrases" 66 ⟨"PalmHours$Phrases", "productStep", "()I"⟩ ∈ lw_g := pkW_i bkw5 53 rfl
theorem w890 : Cond.instanceMethod ⟨"PalmHours$Phrases", "productStep", "()I"⟩ ∈ lw_g := pkW_i bkw5 54 rfl
theorem w891 : Cond.code ⟨"PalmHours$Phrases", "productStep", "()I"⟩ cX3_productStep 1 (some .int) ∈ lw_g := pkW_i bkw5 55 rfl
theorem w892 : Cond.methodLink "PalmHours$Phrases" 59 ⟨"PalmHours$Phrases", "sumStep", "()I"⟩ ∈ lw_g := pkW_i bkw5 56 rfl
theorem w894 : Cond.instanceMethod ⟨"PalmHours$Phrases", "sumStep", "()I"⟩ ∈ lw_g := pkW_i bkw5 57 rfl
theorem w895 : Cond.code ⟨"PalmHours$Phrases", "sumStep", "()I"⟩ cX3_sumStep 1 (some .int) ∈ lw_g := pkW_i bkw5 58 rfl
theorem w896 : Cond.methodLink "PalmHours$Reader" 110 ⟨"PalmHours$Phrases", "readGone", "(LPalmHours$Formula;)Z"⟩ ∈ lw_g := pkW_i bkw5 59 rfl
theorem w897 : Cond.instanceMethod ⟨"PalmHours$Phrases", "readGone", "(LPalmHours$Formula;)Z"⟩ ∈ lw_g := pkW_i bkw5 60 rfl
theorem w898 : Cond.selects "PalmHours$Phrases" ⟨"PalmHours$Phrases", "readGone", "(LPalmHours$Formula;)Z"⟩ ⟨"PalmHours$Phrases", "readGone", "(LPalmHours$Formula;)Z"⟩ ∈ lw_g := pkW_i bkw5 61 rfl
theorem w899 : Cond.code ⟨"PalmHours$Phrases", "readGone", "(LPalmHours$Formula;)Z"⟩ cX3_readGone 2 (some .boolean) ∈ lw_g := pkW_i bkw5 62 rfl
theorem w900 : Cond.methodLink "PalmHours$Reader" 113 ⟨"PalmHours$Reader", "readPass", "()Z"⟩ ∈ lw_g := pkW_i bkw5 63 rfl
theorem w902 : Cond.instanceMethod ⟨"PalmHours$Reader", "readPass", "()Z"⟩ ∈ lw_g := pkW_i bkw5 64 rfl
theorem w903 : Cond.code ⟨"PalmHours$Reader", "readPass", "()Z"⟩ cX4_readPass 2 (some .boolean) ∈ lw_g := pkW_i bkw5 65 rfl
theorem w912 : Cond.methodLink "PalmHours" 151 ⟨"PalmHours$State", "countDone", "()I"⟩ ∈ lw_g := pkW_i bkw5 66 rfl
theorem w913 : Cond.instanceMethod ⟨"PalmHours$State", "countDone", "()I"⟩ ∈ lw_g := pkW_i bkw5 67 rfl
theorem w914 : Cond.selects "PalmHours$State" ⟨"PalmHours$State", "countDone", "()I"⟩ ⟨"PalmHours$State", "countDone", "()I"⟩ ∈ lw_g := pkW_i bkw5 68 rfl
theorem w915 : Cond.code ⟨"PalmHours$State", "countDone", "()I"⟩ cX6_countDone 3 (some .int) ∈ lw_g := pkW_i bkw5 69 rfl
theorem w916 : Cond.methodLink "PalmHours" 155 ⟨"PalmHours$State", "countEmpty", "()I"⟩ ∈ lw_g := pkW_i bkw5 70 rfl
theorem w917 : Cond.instanceMethod ⟨"PalmHours$State", "countEmpty", "()I"⟩ ∈ lw_g := pkW_i bkw5 71 rfl
theorem w918 : Cond.selects "PalmHours$State" ⟨"PalmHours$State", "countEmpty", "()I"⟩ ⟨"PalmHours$State", "countEmpty", "()I"⟩ ∈ lw_g := pkW_i bkw5 72 rfl
theorem w919 : Cond.code ⟨"PalmHours$State", "countEmpty", "()I"⟩ cX6_countEmpty 3 (some .int) ∈ lw_g := pkW_i bkw5 73 rfl
theorem w924 : Cond.methodLink "PalmHours" 165 ⟨"PalmHours$Town", "isThing", "(I)Z"⟩ ∈ lw_g := pkW_i bkw5 74 rfl
theorem w925 : Cond.methodLink "PalmHours" 171 ⟨"PalmHours$Tokens", "letterOf", "(II)I"⟩ ∈ lw_g := pkW_i bkw5 75 rfl
theorem w926 : Cond.static ⟨"PalmHours$Tokens", "letterOf", "(II)I"⟩ ∈ lw_g := pkW_i bkw5 76 rfl
theorem w927 : Cond.code ⟨"PalmHours$Tokens", "letterOf", "(II)I"⟩ cX8_letterOf 4 (some .int) ∈ lw_g := pkW_i bkw5 77 rfl
theorem w928 : Cond.methodLink "PalmHours" 175 ⟨"PalmHours$Town", "isCorner", "(I)Z"⟩ ∈ lw_g := pkW_i bkw5 78 rfl
theorem w929 : Cond.instanceMethod ⟨"PalmHours$Town", "isCorner", "(I)Z"⟩ ∈ lw_g := pkW_i bkw5 79 rfl
theorem w930 : Cond.selects "PalmHours$Town" ⟨"PalmHours$Town", "isCorner", "(I)Z"⟩ ⟨"PalmHours$Town", "isCorner", "(I)Z"⟩ ∈ lw_g := pkW_i bkw5 80 rfl
theorem w931 : Cond.code ⟨"PalmHours$Town", "isCorner", "(I)Z"⟩ cX9_isCorner 2 (some .boolean) ∈ lw_g := pkW_i bkw5 81 rfl
theorem w932 : Cond.methodLink "PalmHours" 181 ⟨"PalmHours$Town", "isDoing", "(I)Z"⟩ ∈ lw_g := pkW_i bkw5 82 rfl
theorem w933 : Cond.instanceMethod ⟨"PalmHours$Town", "isDoing", "(I)Z"⟩ ∈ lw_g := pkW_i bkw5 83 rfl
theorem w934 : Cond.selects "PalmHours$Town" ⟨"PalmHours$Town", "isDoing", "(I)Z"⟩ ⟨"PalmHours$Town", "isDoing", "(I)Z"⟩ ∈ lw_g := pkW_i bkw5 84 rfl
theorem w935 : Cond.code ⟨"PalmHours$Town", "isDoing", "(I)Z"⟩ cX9_isDoing 2 (some .boolean) ∈ lw_g := pkW_i bkw5 85 rfl
theorem w944 : Cond.methodLink "PalmHours" 198 ⟨"PalmHours", "hourAt", "(I)I"⟩ ∈ lw_g := pkW_i bkw5 86 rfl
theorem w946 : Cond.instanceMethod ⟨"PalmHours", "hourAt", "(I)I"⟩ ∈ lw_g := pkW_i bkw5 87 rfl
theorem w947 : Cond.code ⟨"PalmHours", "hourAt", "(I)I"⟩ cX11_hourAt 2 (some .int) ∈ lw_g := pkW_i bkw5 88 rfl
theorem w948 : Cond.methodLink "PalmHours" 237 ⟨"PalmHours", "lookAt", "(I)V"⟩ ∈ lw_g := pkW_i bkw5 89 rfl
theorem w950 : Cond.instanceMethod ⟨"PalmHours", "lookAt", "(I)V"⟩ ∈ lw_g := pkW_i bkw5 90 rfl
theorem w951 : Cond.code ⟨"PalmHours", "lookAt", "(I)V"⟩ cX11_lookAt 2 none ∈ lw_g := pkW_i bkw5 91 rfl
theorem w952 : Cond.methodLink "PalmHours" 317 ⟨"PalmHours$Palm", "hold", "(IIII)V"⟩ ∈ lw_g := pkW_i bkw5 92 rfl
theorem w953 : Cond.methodLink "PalmHours" 321 ⟨"PalmHours$Palm", "hourNow", "()I"⟩ ∈ lw_g := pkW_i bkw5 93 rfl
theorem w962 : Cond.methodLink "PalmHours" 210 ⟨"PalmHours", "isBeyond", "(I)Z"⟩ ∈ lw_g := pkW_i bkw5 94 rfl
theorem w964 : Cond.instanceMethod ⟨"PalmHours", "isBeyond", "(I)Z"⟩ ∈ lw_g := pkW_i bkw5 95 rfl
def bkwl6 : List (Nat × Cond) := [(965, Cond.code ⟨"PalmHours", "isBeyond", "(I)Z"⟩ cX11_isBeyond 2 (some .boolean)), (966, Cond.methodLink "PalmHours" 213 ⟨"PalmHours", "foresee", "(I[II)I"⟩), (968, Cond.instanceMethod ⟨"PalmHours", "foresee", "(I[II)I"⟩), (969, Cond.code ⟨"PalmHours", "foresee", "(I[II)I"⟩ cX11_foresee 4 (some .int)), (970, Cond.methodLink "PalmHours" 324 ⟨"PalmHours$Palm", "foresee", "([II)I"⟩), (971, Cond.instanceMethod ⟨"PalmHours$Palm", "foresee", "([II)I"⟩), (972, Cond.selects "PalmHours$Palm" ⟨"PalmHours$Palm", "foresee", "([II)I"⟩ ⟨"PalmHours$Palm", "foresee", "([II)I"⟩), (973, Cond.code ⟨"PalmHours$Palm", "foresee", "([II)I"⟩ cX1_foresee 5 (some .int)), (974, Cond.methodLink "PalmHours$Palm" 76 ⟨"PalmHours$Palm", "goOn", "()V"⟩), (975, Cond.instanceMethod ⟨"PalmHours$Palm", "goOn", "()V"⟩), (976, Cond.selects "PalmHours$Palm" ⟨"PalmHours$Palm", "goOn", "()V"⟩ ⟨"PalmHours$Palm", "goOn", "()V"⟩), (977, Cond.code ⟨"PalmHours$Palm", "goOn", "()V"⟩ cX1_goOn 2 none), (978, Cond.methodLink "PalmHours$Palm" 79 ⟨"PalmHours$Palm", "hourNow", "()I"⟩), (991, Cond.methodLink "PalmHours" 217 ⟨"PalmHours", "planNothing", "(II)Z"⟩), (993, Cond.instanceMethod ⟨"PalmHours", "planNothing", "(II)Z"⟩), (994, Cond.code ⟨"PalmHours", "planNothing", "(II)Z"⟩ cX11_planNothing 4 (some .boolean)), (995, Cond.methodLink "PalmHours" 331 ⟨"PalmHours", "doesWithout", "(IIII)Z"⟩), (997, Cond.instanceMethod ⟨"PalmHours", "doesWithout", "(IIII)Z"⟩), (998, Cond.code ⟨"PalmHours", "doesWithout", "(IIII)Z"⟩ cX11_doesWithout 5 (some .boolean)), (999, Cond.methodLink "PalmHours" 339 ⟨"PalmHours", "doesAll", "(IIII)Z"⟩), (1001, Cond.instanceMethod ⟨"PalmHours", "doesAll", "(IIII)Z"⟩), (1002, Cond.code ⟨"PalmHours", "doesAll", "(IIII)Z"⟩ cX11_doesAll 7 (some .boolean)), (1003, Cond.methodLink "PalmHours" 342 ⟨"PalmHours", "tellsWithin", "(III)Z"⟩), (1005, Cond.instanceMethod ⟨"PalmHours", "tellsWithin", "(III)Z"⟩), (1006, Cond.code ⟨"PalmHours", "tellsWithin", "(III)Z"⟩ cX11_tellsWithin 5 (some .boolean)), (1007, Cond.methodLink "PalmHours" 221 ⟨"PalmHours", "planNeeded", "(II)Z"⟩), (1009, Cond.instanceMethod ⟨"PalmHours", "planNeeded", "(II)Z"⟩), (1010, Cond.code ⟨"PalmHours", "planNeeded", "(II)Z"⟩ cX11_planNeeded 4 (some .boolean)), (1011, Cond.methodLink "PalmHours" 335 ⟨"PalmHours", "findGiving", "(III)I"⟩), (1013, Cond.instanceMethod ⟨"PalmHours", "findGiving", "(III)I"⟩), (1014, Cond.code ⟨"PalmHours", "findGiving", "(III)I"⟩ cX11_findGiving 5 (some .int)), (1015, Cond.methodLink "PalmHours" 224 ⟨"PalmHours", "countPlanned", "()I"⟩), (1017, Cond.instanceMethod ⟨"PalmHours", "countPlanned", "()I"⟩), (1018, Cond.code ⟨"PalmHours", "countPlanned", "()I"⟩ cX11_countPlanned 3 (some .int)), (1019, Cond.methodLink "PalmHours" 227 ⟨"PalmHours", "planAnywhere", "(II)Z"⟩), (1021, Cond.instanceMethod ⟨"PalmHours", "planAnywhere", "(II)Z"⟩), (1022, Cond.code ⟨"PalmHours", "planAnywhere", "(II)Z"⟩ cX11_planAnywhere 4 (some .boolean)), (1027, Cond.methodLink "PalmHours" 230 ⟨"PalmHours", "countStaying", "(II)I"⟩), (1029, Cond.instanceMethod ⟨"PalmHours", "countStaying", "(II)I"⟩), (1030, Cond.code ⟨"PalmHours", "countStaying", "(II)I"⟩ cX11_countStaying 5 (some .int)), (1035, Cond.constantLong "PalmHours" 233 (-1)), (1036, Cond.constantLong "PalmHours" 235 (100)), (1037, Cond.methodLink "PalmHours" 240 ⟨"PalmHours", "countRowsOfOne", "(I)J"⟩), (1039, Cond.instanceMethod ⟨"PalmHours", "countRowsOfOne", "(I)J"⟩), (1040, Cond.code ⟨"PalmHours", "countRowsOfOne", "(I)J"⟩ cX11_countRowsOfOne 5 (some .long)), (1041, Cond.methodLink "PalmHours" 349 ⟨"PalmHours$Palm", "goOn", "()V"⟩), (1042, Cond.methodLink "PalmHours" 351 ⟨"PalmHours", "countRowsWithout", "()J"⟩), (1044, Cond.instanceMethod ⟨"PalmHours", "countRowsWithout", "()J"⟩), (1045, Cond.code ⟨"PalmHours", "countRowsWithout", "()J"⟩ cX11_countRowsWithout 3 (some .long)), (1046, Cond.methodLink "PalmHours" 244 ⟨"PalmHours", "countRowsOfTwo", "(I)J"⟩), (1048, Cond.instanceMethod ⟨"PalmHours", "countRowsOfTwo", "(I)J"⟩), (1049, Cond.code ⟨"PalmHours", "countRowsOfTwo", "(I)J"⟩ cX11_countRowsOfTwo 7 (some .long)), (1054, Cond.methodLink "PalmHours" 247 ⟨"PalmHours$Walks", "stepsOf", "(LPalmHours$Town;II)I"⟩), (1055, Cond.instanceMethod ⟨"PalmHours$Walks", "stepsOf", "(LPalmHours$Town;II)I"⟩), (1056, Cond.selects "PalmHours$Walks" ⟨"PalmHours$Walks", "stepsOf", "(LPalmHours$Town;II)I"⟩ ⟨"PalmHours$Walks", "stepsOf", "(LPalmHours$Town;II)I"⟩), (1057, Cond.code ⟨"PalmHours$Walks", "stepsOf", "(LPalmHours$Town;II)I"⟩ cX10_stepsOf 6 (some .int)), (1058, Cond.constant "PalmHours$Walks" 18 (1000000)), (1059, Cond.methodLink "PalmHours$Walks" 37 ⟨"PalmHours$Walks", "shorten", "(III)V"⟩), (1061, Cond.instanceMethod ⟨"PalmHours$Walks", "shorten", "(III)V"⟩), (1062, Cond.code ⟨"PalmHours$Walks", "shorten", "(III)V"⟩ cX10_shorten 4 none), (1063, Cond.methodLink "PalmHours$Walks" 45 ⟨"java/lang/Math", "min", "(II)I"⟩), (1064, Cond.methodLink "PalmHours$Walks" 41 ⟨"PalmHours$Town", "isCorner", "(I)Z"⟩), (1073, Cond.methodLink "PalmHours" 251 ⟨"PalmHours$Walks", "goOutFrom", "(LPalmHours$Town;I)V"⟩), (1074, Cond.instanceMethod ⟨"PalmHours$Walks", "goOutFrom", "(LPalmHours$Town;I)V"⟩), (1075, Cond.selects "PalmHours$Walks" ⟨"PalmHours$Walks", "goOutFrom", "(LPalmHours$Town;I)V"⟩ ⟨"PalmHours$Walks", "goOutFrom", "(LPalmHours$Town;I)V"⟩), (1076, Cond.code ⟨"PalmHours$Walks", "goOutFrom", "(LPalmHours$Town;I)V"⟩ cX10_goOutFrom 6 none), (1077, Cond.methodLink "PalmHours$Walks" 51 ⟨"PalmHours$Walks", "across", "(LPalmHours$Town;II)I"⟩), (1078, Cond.static ⟨"PalmHours$Walks", "across", "(LPalmHours$Town;II)I"⟩), (1079, Cond.code ⟨"PalmHours$Walks", "across", "(LPalmHours$Town;II)I"⟩ cX10_across 5 (some .int)), (1080, Cond.methodLink "PalmHours" 255 ⟨"PalmHours$Walks", "canBeAt", "(II)Z"⟩), (1081, Cond.instanceMethod ⟨"PalmHours$Walks", "canBeAt", "(II)Z"⟩), (1082, Cond.selects "PalmHours$Walks" ⟨"PalmHours$Walks", "canBeAt", "(II)Z"⟩ ⟨"PalmHours$Walks", "canBeAt", "(II)Z"⟩), (1083, Cond.code ⟨"PalmHours$Walks", "canBeAt", "(II)Z"⟩ cX10_canBeAt 3 (some .boolean)), (1088, Cond.methodLink "PalmHours" 258 ⟨"PalmHours$Seen", "read", "(LPalmHours$Tape;LPalmHours$Town;)Z"⟩), (1089, Cond.instanceMethod ⟨"PalmHours$Seen", "read", "(LPalmHours$Tape;LPalmHours$Town;)Z"⟩), (1090, Cond.selects "PalmHours$Seen" ⟨"PalmHours$Seen", "read", "(LPalmHours$Tape;LPalmHours$Town;)Z"⟩ ⟨"PalmHours$Seen", "read", "(LPalmHours$Tape;LPalmHours$Town;)Z"⟩), (1091, Cond.code ⟨"PalmHours$Seen", "read", "(LPalmHours$Tape;LPalmHours$Town;)Z"⟩ cX5_read 6 (some .boolean)), (1092, Cond.methodLink "PalmHours$Seen" 35 ⟨"PalmHours$Tape", "at", "(I)I"⟩), (1093, Cond.methodLink "PalmHours$Seen" 39 ⟨"PalmHours$Town", "isCorner", "(I)Z"⟩), (1098, Cond.methodLink "PalmHours" 261 ⟨"PalmHours", "findHeld", "(I)I"⟩), (1100, Cond.instanceMethod ⟨"PalmHours", "findHeld", "(I)I"⟩), (1101, Cond.code ⟨"PalmHours", "findHeld", "(I)I"⟩ cX11_findHeld 5 (some .int)), (1102, Cond.methodLink "PalmHours" 359 ⟨"PalmHours$Seen", "isAbout", "(I)Z"⟩), (1103, Cond.instanceMethod ⟨"PalmHours$Seen", "isAbout", "(I)Z"⟩), (1104, Cond.selects "PalmHours$Seen" ⟨"PalmHours$Seen", "isAbout", "(I)Z"⟩ ⟨"PalmHours$Seen", "isAbout", "(I)Z"⟩), (1105, Cond.code ⟨"PalmHours$Seen", "isAbout", "(I)Z"⟩ cX5_isAbout 3 (some .boolean)), (1106, Cond.methodLink "PalmHours" 362 ⟨"PalmHours$Seen", "isSo", "(I[II)Z"⟩), (1107, Cond.instanceMethod ⟨"PalmHours$Seen", "isSo", "(I[II)Z"⟩), (1108, Cond.selects "PalmHours$Seen" ⟨"PalmHours$Seen", "isSo", "(I[II)Z"⟩ ⟨"PalmHours$Seen", "isSo", "(I[II)Z"⟩), (1109, Cond.code ⟨"PalmHours$Seen", "isSo", "(I[II)Z"⟩ cX5_isSo 6 (some .boolean)), (1110, Cond.methodLink "PalmHours" 366 ⟨"PalmHours$Seen", "noteHours", "(I[II)V"⟩), (1111, Cond.instanceMethod ⟨"PalmHours$Seen", "noteHours", "(I[II)V"⟩), (1112, Cond.selects "PalmHours$Seen" ⟨"PalmHours$Seen", "noteHours", "(I[II)V"⟩ ⟨"PalmHours$Seen", "noteHours", "(I[II)V"⟩), (1113, Cond.code ⟨"PalmHours$Seen", "noteHours", "(I[II)V"⟩ cX5_noteHours 5 none), (1118, Cond.methodLink "PalmHours" 264 ⟨"java/lang/Math", "min", "(II)I"⟩), (1119, Cond.methodLink "PalmHours" 269 ⟨"PalmHours$Seen", "mostLeft", "(II)I"⟩)]
theorem bkw6 : pkW lw_tbl 0 bkwl6 = true := by decide +kernel
theorem w965 : Cond.code ⟨"PalmHours", "isBeyond", "(I)Z"⟩ cX11_isBeyond 2 (some .boolean) ∈ lw_g := pkW_i bkw6 0 rfl
theorem w966 : Cond.methodLink "PalmHours" 213 ⟨"PalmHours", "foresee", "(I[II)I"⟩ ∈ lw_g := pkW_i bkw6 1 rfl
theorem w968 : Cond.instanceMethod ⟨"PalmHours", "foresee", "(I[II)I"⟩ ∈ lw_g := pkW_i bkw6 2 rfl
theorem w969 : Cond.code ⟨"PalmHours", "foresee", "(I[II)I"⟩ cX11_foresee 4 (some .int) ∈ lw_g := pkW_i bkw6 3 rfl
theorem w970 : Cond.methodLink "PalmHours" 324 ⟨"PalmHours$Palm", "foresee", "([II)I"⟩ ∈ lw_g := pkW_i bkw6 4 rfl
theorem w971 : Cond.instanceMethod ⟨"PalmHours$Palm", "foresee", "([II)I"⟩ ∈ lw_g := pkW_i bkw6 5 rfl
theorem w972 : Cond.selects "PalmHours$Palm" ⟨"PalmHours$Palm", "foresee", "([II)I"⟩ ⟨"PalmHours$Palm", "foresee", "([II)I"⟩ ∈ lw_g := pkW_i bkw6 6 rfl
theorem w973 : Cond.code ⟨"PalmHours$Palm", "foresee", "([II)I"⟩ cX1_foresee 5 (some .int) ∈ lw_g := pkW_i bkw6 7 rfl
theorem w974 : Cond.methodLink "PalmHours$Palm" 76 ⟨"PalmHours$Palm", "goOn", "()V"⟩ ∈ lw_g := pkW_i bkw6 8 rfl
theorem w975 : Cond.instanceMethod ⟨"PalmHours$Palm", "goOn", "()V"⟩ ∈ lw_g := pkW_i bkw6 9 rfl
theorem w976 : Cond.selects "PalmHours$Palm" ⟨"PalmHours$Palm", "goOn", "()V"⟩ ⟨"PalmHours$Palm", "goOn", "()V"⟩ ∈ lw_g := pkW_i bkw6 10 rfl
theorem w977 : Cond.code ⟨"PalmHours$Palm", "goOn", "()V"⟩ cX1_goOn 2 none ∈ lw_g := pkW_i bkw6 11 rfl
theorem w978 : Cond.methodLink "PalmHours$Palm" 79 ⟨"PalmHours$Palm", "hourNow", "()I"⟩ ∈ lw_g := pkW_i bkw6 12 rfl
theorem w991 : Cond.methodLink "PalmHours" 217 ⟨"PalmHours", "planNothing", "(II)Z"⟩ ∈ lw_g := pkW_i bkw6 13 rfl
theorem w993 : Cond.instanceMethod ⟨"PalmHours", "planNothing", "(II)Z"⟩ ∈ lw_g := pkW_i bkw6 14 rfl
theorem w994 : Cond.code ⟨"PalmHours", "planNothing", "(II)Z"⟩ cX11_planNothing 4 (some .boolean) ∈ lw_g := pkW_i bkw6 15 rfl
theorem w995 : Cond.methodLink "PalmHours" 331 ⟨"PalmHours", "doesWithout", "(IIII)Z"⟩ ∈ lw_g := pkW_i bkw6 16 rfl
theorem w997 : Cond.instanceMethod ⟨"PalmHours", "doesWithout", "(IIII)Z"⟩ ∈ lw_g := pkW_i bkw6 17 rfl
theorem w998 : Cond.code ⟨"PalmHours", "doesWithout", "(IIII)Z"⟩ cX11_doesWithout 5 (some .boolean) ∈ lw_g := pkW_i bkw6 18 rfl
theorem w999 : Cond.methodLink "PalmHours" 339 ⟨"PalmHours", "doesAll", "(IIII)Z"⟩ ∈ lw_g := pkW_i bkw6 19 rfl
theorem w1001 : Cond.instanceMethod ⟨"PalmHours", "doesAll", "(IIII)Z"⟩ ∈ lw_g := pkW_i bkw6 20 rfl
theorem w1002 : Cond.code ⟨"PalmHours", "doesAll", "(IIII)Z"⟩ cX11_doesAll 7 (some .boolean) ∈ lw_g := pkW_i bkw6 21 rfl
theorem w1003 : Cond.methodLink "PalmHours" 342 ⟨"PalmHours", "tellsWithin", "(III)Z"⟩ ∈ lw_g := pkW_i bkw6 22 rfl
theorem w1005 : Cond.instanceMethod ⟨"PalmHours", "tellsWithin", "(III)Z"⟩ ∈ lw_g := pkW_i bkw6 23 rfl
theorem w1006 : Cond.code ⟨"PalmHours", "tellsWithin", "(III)Z"⟩ cX11_tellsWithin 5 (some .boolean) ∈ lw_g := pkW_i bkw6 24 rfl
theorem w1007 : Cond.methodLink "PalmHours" 221 ⟨"PalmHours", "planNeeded", "(II)Z"⟩ ∈ lw_g := pkW_i bkw6 25 rfl
theorem w1009 : Cond.instanceMethod ⟨"PalmHours", "planNeeded", "(II)Z"⟩ ∈ lw_g := pkW_i bkw6 26 rfl
theorem w1010 : Cond.code ⟨"PalmHours", "planNeeded", "(II)Z"⟩ cX11_planNeeded 4 (some .boolean) ∈ lw_g := pkW_i bkw6 27 rfl
theorem w1011 : Cond.methodLink "PalmHours" 335 ⟨"PalmHours", "findGiving", "(III)I"⟩ ∈ lw_g := pkW_i bkw6 28 rfl
theorem w1013 : Cond.instanceMethod ⟨"PalmHours", "findGiving", "(III)I"⟩ ∈ lw_g := pkW_i bkw6 29 rfl
theorem w1014 : Cond.code ⟨"PalmHours", "findGiving", "(III)I"⟩ cX11_findGiving 5 (some .int) ∈ lw_g := pkW_i bkw6 30 rfl
theorem w1015 : Cond.methodLink "PalmHours" 224 ⟨"PalmHours", "countPlanned", "()I"⟩ ∈ lw_g := pkW_i bkw6 31 rfl
theorem w1017 : Cond.instanceMethod ⟨"PalmHours", "countPlanned", "()I"⟩ ∈ lw_g := pkW_i bkw6 32 rfl
theorem w1018 : Cond.code ⟨"PalmHours", "countPlanned", "()I"⟩ cX11_countPlanned 3 (some .int) ∈ lw_g := pkW_i bkw6 33 rfl
theorem w1019 : Cond.methodLink "PalmHours" 227 ⟨"PalmHours", "planAnywhere", "(II)Z"⟩ ∈ lw_g := pkW_i bkw6 34 rfl
theorem w1021 : Cond.instanceMethod ⟨"PalmHours", "planAnywhere", "(II)Z"⟩ ∈ lw_g := pkW_i bkw6 35 rfl
theorem w1022 : Cond.code ⟨"PalmHours", "planAnywhere", "(II)Z"⟩ cX11_planAnywhere 4 (some .boolean) ∈ lw_g := pkW_i bkw6 36 rfl
theorem w1027 : Cond.methodLink "PalmHours" 230 ⟨"PalmHours", "countStaying", "(II)I"⟩ ∈ lw_g := pkW_i bkw6 37 rfl
theorem w1029 : Cond.instanceMethod ⟨"PalmHours", "countStaying", "(II)I"⟩ ∈ lw_g := pkW_i bkw6 38 rfl
theorem w1030 : Cond.code ⟨"PalmHours", "countStaying", "(II)I"⟩ cX11_countStaying 5 (some .int) ∈ lw_g := pkW_i bkw6 39 rfl
theorem w1035 : Cond.constantLong "PalmHours" 233 (-1) ∈ lw_g := pkW_i bkw6 40 rfl
theorem w1036 : Cond.constantLong "PalmHours" 235 (100) ∈ lw_g := pkW_i bkw6 41 rfl
theorem w1037 : Cond.methodLink "PalmHours" 240 ⟨"PalmHours", "countRowsOfOne", "(I)J"⟩ ∈ lw_g := pkW_i bkw6 42 rfl
theorem w1039 : Cond.instanceMethod ⟨"PalmHours", "countRowsOfOne", "(I)J"⟩ ∈ lw_g := pkW_i bkw6 43 rfl
theorem w1040 : Cond.code ⟨"PalmHours", "countRowsOfOne", "(I)J"⟩ cX11_countRowsOfOne 5 (some .long) ∈ lw_g := pkW_i bkw6 44 rfl
theorem w1041 : Cond.methodLink "PalmHours" 349 ⟨"PalmHours$Palm", "goOn", "()V"⟩ ∈ lw_g := pkW_i bkw6 45 rfl
theorem w1042 : Cond.methodLink "PalmHours" 351 ⟨"PalmHours", "countRowsWithout", "()J"⟩ ∈ lw_g := pkW_i bkw6 46 rfl
theorem w1044 : Cond.instanceMethod ⟨"PalmHours", "countRowsWithout", "()J"⟩ ∈ lw_g := pkW_i bkw6 47 rfl
theorem w1045 : Cond.code ⟨"PalmHours", "countRowsWithout", "()J"⟩ cX11_countRowsWithout 3 (some .long) ∈ lw_g := pkW_i bkw6 48 rfl
theorem w1046 : Cond.methodLink "PalmHours" 244 ⟨"PalmHours", "countRowsOfTwo", "(I)J"⟩ ∈ lw_g := pkW_i bkw6 49 rfl
theorem w1048 : Cond.instanceMethod ⟨"PalmHours", "countRowsOfTwo", "(I)J"⟩ ∈ lw_g := pkW_i bkw6 50 rfl
theorem w1049 : Cond.code ⟨"PalmHours", "countRowsOfTwo", "(I)J"⟩ cX11_countRowsOfTwo 7 (some .long) ∈ lw_g := pkW_i bkw6 51 rfl
theorem w1054 : Cond.methodLink "PalmHours" 247 ⟨"PalmHours$Walks", "stepsOf", "(LPalmHours$Town;II)I"⟩ ∈ lw_g := pkW_i bkw6 52 rfl
theorem w1055 : Cond.instanceMethod ⟨"PalmHours$Walks", "stepsOf", "(LPalmHours$Town;II)I"⟩ ∈ lw_g := pkW_i bkw6 53 rfl
theorem w1056 : Cond.selects "PalmHours$Walks" ⟨"PalmHours$Walks", "stepsOf", "(LPalmHours$Town;II)I"⟩ ⟨"PalmHours$Walks", "stepsOf", "(LPalmHours$Town;II)I"⟩ ∈ lw_g := pkW_i bkw6 54 rfl
theorem w1057 : Cond.code ⟨"PalmHours$Walks", "stepsOf", "(LPalmHours$Town;II)I"⟩ cX10_stepsOf 6 (some .int) ∈ lw_g := pkW_i bkw6 55 rfl
theorem w1058 : Cond.constant "PalmHours$Walks" 18 (1000000) ∈ lw_g := pkW_i bkw6 56 rfl
theorem w1059 : Cond.methodLink "PalmHours$Walks" 37 ⟨"PalmHours$Walks", "shorten", "(III)V"⟩ ∈ lw_g := pkW_i bkw6 57 rfl
theorem w1061 : Cond.instanceMethod ⟨"PalmHours$Walks", "shorten", "(III)V"⟩ ∈ lw_g := pkW_i bkw6 58 rfl
theorem w1062 : Cond.code ⟨"PalmHours$Walks", "shorten", "(III)V"⟩ cX10_shorten 4 none ∈ lw_g := pkW_i bkw6 59 rfl
theorem w1063 : Cond.methodLink "PalmHours$Walks" 45 ⟨"java/lang/Math", "min", "(II)I"⟩ ∈ lw_g := pkW_i bkw6 60 rfl
theorem w1064 : Cond.methodLink "PalmHours$Walks" 41 ⟨"PalmHours$Town", "isCorner", "(I)Z"⟩ ∈ lw_g := pkW_i bkw6 61 rfl
theorem w1073 : Cond.methodLink "PalmHours" 251 ⟨"PalmHours$Walks", "goOutFrom", "(LPalmHours$Town;I)V"⟩ ∈ lw_g := pkW_i bkw6 62 rfl
theorem w1074 : Cond.instanceMethod ⟨"PalmHours$Walks", "goOutFrom", "(LPalmHours$Town;I)V"⟩ ∈ lw_g := pkW_i bkw6 63 rfl
theorem w1075 : Cond.selects "PalmHours$Walks" ⟨"PalmHours$Walks", "goOutFrom", "(LPalmHours$Town;I)V"⟩ ⟨"PalmHours$Walks", "goOutFrom", "(LPalmHours$Town;I)V"⟩ ∈ lw_g := pkW_i bkw6 64 rfl
theorem w1076 : Cond.code ⟨"PalmHours$Walks", "goOutFrom", "(LPalmHours$Town;I)V"⟩ cX10_goOutFrom 6 none ∈ lw_g := pkW_i bkw6 65 rfl
theorem w1077 : Cond.methodLink "PalmHours$Walks" 51 ⟨"PalmHours$Walks", "across", "(LPalmHours$Town;II)I"⟩ ∈ lw_g := pkW_i bkw6 66 rfl
theorem w1078 : Cond.static ⟨"PalmHours$Walks", "across", "(LPalmHours$Town;II)I"⟩ ∈ lw_g := pkW_i bkw6 67 rfl
theorem w1079 : Cond.code ⟨"PalmHours$Walks", "across", "(LPalmHours$Town;II)I"⟩ cX10_across 5 (some .int) ∈ lw_g := pkW_i bkw6 68 rfl
theorem w1080 : Cond.methodLink "PalmHours" 255 ⟨"PalmHours$Walks", "canBeAt", "(II)Z"⟩ ∈ lw_g := pkW_i bkw6 69 rfl
theorem w1081 : Cond.instanceMethod ⟨"PalmHours$Walks", "canBeAt", "(II)Z"⟩ ∈ lw_g := pkW_i bkw6 70 rfl
theorem w1082 : Cond.selects "PalmHours$Walks" ⟨"PalmHours$Walks", "canBeAt", "(II)Z"⟩ ⟨"PalmHours$Walks", "canBeAt", "(II)Z"⟩ ∈ lw_g := pkW_i bkw6 71 rfl
theorem w1083 : Cond.code ⟨"PalmHours$Walks", "canBeAt", "(II)Z"⟩ cX10_canBeAt 3 (some .boolean) ∈ lw_g := pkW_i bkw6 72 rfl
theorem w1088 : Cond.methodLink "PalmHours" 258 ⟨"PalmHours$Seen", "read", "(LPalmHours$Tape;LPalmHours$Town;)Z"⟩ ∈ lw_g := pkW_i bkw6 73 rfl
theorem w1089 : Cond.instanceMethod ⟨"PalmHours$Seen", "read", "(LPalmHours$Tape;LPalmHours$Town;)Z"⟩ ∈ lw_g := pkW_i bkw6 74 rfl
theorem w1090 : Cond.selects "PalmHours$Seen" ⟨"PalmHours$Seen", "read", "(LPalmHours$Tape;LPalmHours$Town;)Z"⟩ ⟨"PalmHours$Seen", "read", "(LPalmHours$Tape;LPalmHours$Town;)Z"⟩ ∈ lw_g := pkW_i bkw6 75 rfl
theorem w1091 : Cond.code ⟨"PalmHours$Seen", "read", "(LPalmHours$Tape;LPalmHours$Town;)Z"⟩ cX5_read 6 (some .boolean) ∈ lw_g := pkW_i bkw6 76 rfl
theorem w1092 : Cond.methodLink "PalmHours$Seen" 35 ⟨"PalmHours$Tape", "at", "(I)I"⟩ ∈ lw_g := pkW_i bkw6 77 rfl
theorem w1093 : Cond.methodLink "PalmHours$Seen" 39 ⟨"PalmHours$Town", "isCorner", "(I)Z"⟩ ∈ lw_g := pkW_i bkw6 78 rfl
theorem w1098 : Cond.methodLink "PalmHours" 261 ⟨"PalmHours", "findHeld", "(I)I"⟩ ∈ lw_g := pkW_i bkw6 79 rfl
theorem w1100 : Cond.instanceMethod ⟨"PalmHours", "findHeld", "(I)I"⟩ ∈ lw_g := pkW_i bkw6 80 rfl
theorem w1101 : Cond.code ⟨"PalmHours", "findHeld", "(I)I"⟩ cX11_findHeld 5 (some .int) ∈ lw_g := pkW_i bkw6 81 rfl
theorem w1102 : Cond.methodLink "PalmHours" 359 ⟨"PalmHours$Seen", "isAbout", "(I)Z"⟩ ∈ lw_g := pkW_i bkw6 82 rfl
theorem w1103 : Cond.instanceMethod ⟨"PalmHours$Seen", "isAbout", "(I)Z"⟩ ∈ lw_g := pkW_i bkw6 83 rfl
theorem w1104 : Cond.selects "PalmHours$Seen" ⟨"PalmHours$Seen", "isAbout", "(I)Z"⟩ ⟨"PalmHours$Seen", "isAbout", "(I)Z"⟩ ∈ lw_g := pkW_i bkw6 84 rfl
theorem w1105 : Cond.code ⟨"PalmHours$Seen", "isAbout", "(I)Z"⟩ cX5_isAbout 3 (some .boolean) ∈ lw_g := pkW_i bkw6 85 rfl
theorem w1106 : Cond.methodLink "PalmHours" 362 ⟨"PalmHours$Seen", "isSo", "(I[II)Z"⟩ ∈ lw_g := pkW_i bkw6 86 rfl
theorem w1107 : Cond.instanceMethod ⟨"PalmHours$Seen", "isSo", "(I[II)Z"⟩ ∈ lw_g := pkW_i bkw6 87 rfl
theorem w1108 : Cond.selects "PalmHours$Seen" ⟨"PalmHours$Seen", "isSo", "(I[II)Z"⟩ ⟨"PalmHours$Seen", "isSo", "(I[II)Z"⟩ ∈ lw_g := pkW_i bkw6 88 rfl
theorem w1109 : Cond.code ⟨"PalmHours$Seen", "isSo", "(I[II)Z"⟩ cX5_isSo 6 (some .boolean) ∈ lw_g := pkW_i bkw6 89 rfl
theorem w1110 : Cond.methodLink "PalmHours" 366 ⟨"PalmHours$Seen", "noteHours", "(I[II)V"⟩ ∈ lw_g := pkW_i bkw6 90 rfl
theorem w1111 : Cond.instanceMethod ⟨"PalmHours$Seen", "noteHours", "(I[II)V"⟩ ∈ lw_g := pkW_i bkw6 91 rfl
theorem w1112 : Cond.selects "PalmHours$Seen" ⟨"PalmHours$Seen", "noteHours", "(I[II)V"⟩ ⟨"PalmHours$Seen", "noteHours", "(I[II)V"⟩ ∈ lw_g := pkW_i bkw6 92 rfl
theorem w1113 : Cond.code ⟨"PalmHours$Seen", "noteHours", "(I[II)V"⟩ cX5_noteHours 5 none ∈ lw_g := pkW_i bkw6 93 rfl
theorem w1118 : Cond.methodLink "PalmHours" 264 ⟨"java/lang/Math", "min", "(II)I"⟩ ∈ lw_g := pkW_i bkw6 94 rfl
theorem w1119 : Cond.methodLink "PalmHours" 269 ⟨"PalmHours$Seen", "mostLeft", "(II)I"⟩ ∈ lw_g := pkW_i bkw6 95 rfl
def bkwl7 : List (Nat × Cond) := [(1120, Cond.instanceMethod ⟨"PalmHours$Seen", "mostLeft", "(II)I"⟩), (1121, Cond.selects "PalmHours$Seen" ⟨"PalmHours$Seen", "mostLeft", "(II)I"⟩ ⟨"PalmHours$Seen", "mostLeft", "(II)I"⟩), (1122, Cond.code ⟨"PalmHours$Seen", "mostLeft", "(II)I"⟩ cX5_mostLeft 8 (some .int)), (1123, Cond.methodLink "PalmHours$Seen" 45 ⟨"java/lang/Math", "max", "(II)I"⟩), (1128, Cond.methodLink "PalmHours" 272 ⟨"PalmHours$Past", "remember", "(LPalmHours$State;)V"⟩), (1129, Cond.instanceMethod ⟨"PalmHours$Past", "remember", "(LPalmHours$State;)V"⟩), (1130, Cond.selects "PalmHours$Past" ⟨"PalmHours$Past", "remember", "(LPalmHours$State;)V"⟩ ⟨"PalmHours$Past", "remember", "(LPalmHours$State;)V"⟩), (1131, Cond.code ⟨"PalmHours$Past", "remember", "(LPalmHours$State;)V"⟩ cX2_remember 2 none), (1132, Cond.methodLink "PalmHours$Past" 25 ⟨"PalmHours$State", "save", "([I)V"⟩), (1133, Cond.instanceMethod ⟨"PalmHours$State", "save", "([I)V"⟩), (1134, Cond.selects "PalmHours$State" ⟨"PalmHours$State", "save", "([I)V"⟩ ⟨"PalmHours$State", "save", "([I)V"⟩), (1135, Cond.code ⟨"PalmHours$State", "save", "([I)V"⟩ cX6_save 2 none), (1136, Cond.methodLink "PalmHours$State" 91 ⟨"java/lang/System", "arraycopy", "(Ljava/lang/Object;ILjava/lang/Object;II)V"⟩), (1137, Cond.static ⟨"java/lang/System", "arraycopy", "(Ljava/lang/Object;ILjava/lang/Object;II)V"⟩), (1138, Cond.native ⟨"java/lang/System", "arraycopy", "(Ljava/lang/Object;ILjava/lang/Object;II)V"⟩), (1139, Cond.methodLink "PalmHours$Past" 29 ⟨"java/lang/Math", "min", "(II)I"⟩), (1140, Cond.methodLink "PalmHours" 276 ⟨"PalmHours$State", "goOn", "(LPalmHours$Palm;)V"⟩), (1141, Cond.instanceMethod ⟨"PalmHours$State", "goOn", "(LPalmHours$Palm;)V"⟩), (1142, Cond.selects "PalmHours$State" ⟨"PalmHours$State", "goOn", "(LPalmHours$Palm;)V"⟩ ⟨"PalmHours$State", "goOn", "(LPalmHours$Palm;)V"⟩), (1143, Cond.code ⟨"PalmHours$State", "goOn", "(LPalmHours$Palm;)V"⟩ cX6_goOn 3 none), (1144, Cond.methodLink "PalmHours$State" 59 ⟨"PalmHours$Palm", "goOn", "()V"⟩), (1145, Cond.methodLink "PalmHours$State" 67 ⟨"java/lang/Math", "min", "(II)I"⟩), (1150, Cond.methodLink "PalmHours" 284 ⟨"PalmHours", "letPass", "()I"⟩), (1152, Cond.instanceMethod ⟨"PalmHours", "letPass", "()I"⟩), (1153, Cond.code ⟨"PalmHours", "letPass", "()I"⟩ cX11_letPass 2 (some .int)), (1154, Cond.methodLink "PalmHours" 376 ⟨"PalmHours", "draw", "(I)I"⟩), (1156, Cond.instanceMethod ⟨"PalmHours", "draw", "(I)I"⟩), (1157, Cond.code ⟨"PalmHours", "draw", "(I)I"⟩ cX11_draw 2 (some .int)), (1158, Cond.constantLong "PalmHours" 370 (1103515245)), (1159, Cond.constantLong "PalmHours" 372 (12345)), (1160, Cond.constantLong "PalmHours" 374 (2147483647)), (1161, Cond.methodLink "PalmHours" 327 ⟨"PalmHours$State", "put", "(II)V"⟩), (1166, Cond.methodLink "PalmHours" 287 ⟨"PalmHours", "putByAct", "(II)I"⟩), (1168, Cond.instanceMethod ⟨"PalmHours", "putByAct", "(II)I"⟩), (1169, Cond.code ⟨"PalmHours", "putByAct", "(II)I"⟩ cX11_putByAct 3 (some .int)), (1178, Cond.methodLink "PalmHours" 290 ⟨"PalmHours$Past", "bringBack", "(LPalmHours$State;)Z"⟩), (1179, Cond.instanceMethod ⟨"PalmHours$Past", "bringBack", "(LPalmHours$State;)Z"⟩), (1180, Cond.selects "PalmHours$Past" ⟨"PalmHours$Past", "bringBack", "(LPalmHours$State;)Z"⟩ ⟨"PalmHours$Past", "bringBack", "(LPalmHours$State;)Z"⟩), (1181, Cond.code ⟨"PalmHours$Past", "bringBack", "(LPalmHours$State;)Z"⟩ cX2_bringBack 2 (some .boolean)), (1182, Cond.methodLink "PalmHours$Past" 35 ⟨"PalmHours$State", "bringBack", "([I)V"⟩), (1183, Cond.instanceMethod ⟨"PalmHours$State", "bringBack", "([I)V"⟩), (1184, Cond.selects "PalmHours$State" ⟨"PalmHours$State", "bringBack", "([I)V"⟩ ⟨"PalmHours$State", "bringBack", "([I)V"⟩), (1185, Cond.code ⟨"PalmHours$State", "bringBack", "([I)V"⟩ cX6_bringBack 2 none), (1198, Cond.methodLink "PalmHours" 300 ⟨"PalmHours$State", "writeImage", "([I)I"⟩), (1199, Cond.instanceMethod ⟨"PalmHours$State", "writeImage", "([I)I"⟩), (1200, Cond.selects "PalmHours$State" ⟨"PalmHours$State", "writeImage", "([I)I"⟩ ⟨"PalmHours$State", "writeImage", "([I)I"⟩), (1201, Cond.code ⟨"PalmHours$State", "writeImage", "([I)I"⟩ cX6_writeImage 5 (some .int)), (1202, Cond.methodLink "PalmHours$State" 97 ⟨"PalmHours$State", "imageSize", "()I"⟩), (1204, Cond.instanceMethod ⟨"PalmHours$State", "imageSize", "()I"⟩), (1205, Cond.code ⟨"PalmHours$State", "imageSize", "()I"⟩ cX6_imageSize 1 (some .int)), (1206, Cond.methodLink "PalmHours$State" 100 ⟨"PalmHours$State", "checkOf", "([II)I"⟩), (1207, Cond.static ⟨"PalmHours$State", "checkOf", "([II)I"⟩), (1208, Cond.code ⟨"PalmHours$State", "checkOf", "([II)I"⟩ cX6_checkOf 4 (some .int)), (1217, Cond.methodLink "PalmHours" 304 ⟨"PalmHours$State", "isImage", "(LPalmHours$Tape;)Z"⟩), (1218, Cond.instanceMethod ⟨"PalmHours$State", "isImage", "(LPalmHours$Tape;)Z"⟩), (1219, Cond.selects "PalmHours$State" ⟨"PalmHours$State", "isImage", "(LPalmHours$Tape;)Z"⟩ ⟨"PalmHours$State", "isImage", "(LPalmHours$Tape;)Z"⟩), (1220, Cond.code ⟨"PalmHours$State", "isImage", "(LPalmHours$Tape;)Z"⟩ cX6_isImage 6 (some .boolean)), (1221, Cond.methodLink "PalmHours$State" 109 ⟨"PalmHours$Tape", "pairAt", "(I)I"⟩), (1222, Cond.instanceMethod ⟨"PalmHours$Tape", "pairAt", "(I)I"⟩), (1223, Cond.selects "PalmHours$Tape" ⟨"PalmHours$Tape", "pairAt", "(I)I"⟩ ⟨"PalmHours$Tape", "pairAt", "(I)I"⟩), (1224, Cond.code ⟨"PalmHours$Tape", "pairAt", "(I)I"⟩ cX7_pairAt 2 (some .int)), (1225, Cond.methodLink "PalmHours$Tape" 19 ⟨"PalmHours$Tape", "at", "(I)I"⟩), (1226, Cond.methodLink "PalmHours$State" 113 ⟨"PalmHours$Tape", "at", "(I)I"⟩), (1227, Cond.methodLink "PalmHours$State" 116 ⟨"PalmHours$Town", "isThing", "(I)Z"⟩), (1228, Cond.methodLink "PalmHours" 308 ⟨"PalmHours$State", "readImage", "(LPalmHours$Tape;)V"⟩), (1229, Cond.instanceMethod ⟨"PalmHours$State", "readImage", "(LPalmHours$Tape;)V"⟩), (1230, Cond.selects "PalmHours$State" ⟨"PalmHours$State", "readImage", "(LPalmHours$Tape;)V"⟩ ⟨"PalmHours$State", "readImage", "(LPalmHours$Tape;)V"⟩), (1231, Cond.code ⟨"PalmHours$State", "readImage", "(LPalmHours$Tape;)V"⟩ cX6_readImage 4 none), (1242, Cond.fieldLink "PalmHoursModel" 7 "PalmHoursModel" "tape" "[I"), (1243, Cond.fieldLink "PalmHoursModel" 13 "PalmHoursModel" "taped" "I"), (1244, Cond.fieldLink "PalmHoursModel" 17 "PalmHoursModel" "size" "I"), (1245, Cond.fieldLink "PalmHoursModel" 20 "PalmHoursModel" "sign" "I"), (1246, Cond.fieldLink "PalmHoursModel" 23 "PalmHoursModel" "signAt" "I"), (1247, Cond.fieldLink "PalmHoursModel" 26 "PalmHoursModel" "signEnd" "I"), (1248, Cond.fieldLink "PalmHoursModel" 29 "PalmHoursModel" "value" "I"), (1249, Cond.fieldLink "PalmHoursModel" 32 "PalmHoursModel" "word" "J"), (1250, Cond.fieldLink "PalmHoursModel" 36 "PalmHoursModel" "faultKind" "I"), (1251, Cond.fieldLink "PalmHoursModel" 39 "PalmHoursModel" "faultPlace" "I"), (1252, Cond.fieldLink "PalmHoursModel" 42 "PalmHoursModel" "toldKind" "I"), (1253, Cond.fieldLink "PalmHoursModel" 45 "PalmHoursModel" "toldPlace" "I"), (1254, Cond.fieldLink "PalmHoursModel" 48 "PalmHoursModel" "lexAt" "I"), (1255, Cond.fieldLink "PalmHoursModel" 51 "PalmHoursModel" "bank" "I"), (1256, Cond.fieldLink "PalmHoursModel" 54 "PalmHoursModel" "things" "[I"), (1257, Cond.fieldLink "PalmHoursModel" 57 "PalmHoursModel" "weighOf" "[I"), (1258, Cond.fieldLink "PalmHoursModel" 60 "PalmHoursModel" "lastsOf" "[I"), (1259, Cond.fieldLink "PalmHoursModel" 63 "PalmHoursModel" "corners" "[I"), (1260, Cond.fieldLink "PalmHoursModel" 66 "PalmHoursModel" "palmTold" "[I"), (1261, Cond.fieldLink "PalmHoursModel" 69 "PalmHoursModel" "roads" "[I"), (1262, Cond.fieldLink "PalmHoursModel" 72 "PalmHoursModel" "stepsOf" "[I"), (1263, Cond.fieldLink "PalmHoursModel" 75 "PalmHoursModel" "farOf" "[I"), (1264, Cond.fieldLink "PalmHoursModel" 78 "PalmHoursModel" "doings" "[I"), (1265, Cond.fieldLink "PalmHoursModel" 81 "PalmHoursModel" "atOf" "[I"), (1266, Cond.fieldLink "PalmHoursModel" 84 "PalmHoursModel" "hourOf" "[I"), (1267, Cond.fieldLink "PalmHoursModel" 87 "PalmHoursModel" "passTold" "[I"), (1268, Cond.fieldLink "PalmHoursModel" 90 "PalmHoursModel" "sumFrom" "[I"), (1269, Cond.fieldLink "PalmHoursModel" 93 "PalmHoursModel" "sumBehind" "[I")]
theorem bkw7 : pkW lw_tbl 0 bkwl7 = true := by decide +kernel
theorem w1120 : Cond.instanceMethod ⟨"PalmHours$Seen", "mostLeft", "(II)I"⟩ ∈ lw_g := pkW_i bkw7 0 rfl
theorem w1121 : Cond.selects "PalmHours$Seen" ⟨"PalmHours$Seen", "mostLeft", "(II)I"⟩ ⟨"PalmHours$Seen", "mostLeft", "(II)I"⟩ ∈ lw_g := pkW_i bkw7 1 rfl
theorem w1122 : Cond.code ⟨"PalmHours$Seen", "mostLeft", "(II)I"⟩ cX5_mostLeft 8 (some .int) ∈ lw_g := pkW_i bkw7 2 rfl
theorem w1123 : Cond.methodLink "PalmHours$Seen" 45 ⟨"java/lang/Math", "max", "(II)I"⟩ ∈ lw_g := pkW_i bkw7 3 rfl
theorem w1128 : Cond.methodLink "PalmHours" 272 ⟨"PalmHours$Past", "remember", "(LPalmHours$State;)V"⟩ ∈ lw_g := pkW_i bkw7 4 rfl
theorem w1129 : Cond.instanceMethod ⟨"PalmHours$Past", "remember", "(LPalmHours$State;)V"⟩ ∈ lw_g := pkW_i bkw7 5 rfl
theorem w1130 : Cond.selects "PalmHours$Past" ⟨"PalmHours$Past", "remember", "(LPalmHours$State;)V"⟩ ⟨"PalmHours$Past", "remember", "(LPalmHours$State;)V"⟩ ∈ lw_g := pkW_i bkw7 6 rfl
theorem w1131 : Cond.code ⟨"PalmHours$Past", "remember", "(LPalmHours$State;)V"⟩ cX2_remember 2 none ∈ lw_g := pkW_i bkw7 7 rfl
theorem w1132 : Cond.methodLink "PalmHours$Past" 25 ⟨"PalmHours$State", "save", "([I)V"⟩ ∈ lw_g := pkW_i bkw7 8 rfl
theorem w1133 : Cond.instanceMethod ⟨"PalmHours$State", "save", "([I)V"⟩ ∈ lw_g := pkW_i bkw7 9 rfl
theorem w1134 : Cond.selects "PalmHours$State" ⟨"PalmHours$State", "save", "([I)V"⟩ ⟨"PalmHours$State", "save", "([I)V"⟩ ∈ lw_g := pkW_i bkw7 10 rfl
theorem w1135 : Cond.code ⟨"PalmHours$State", "save", "([I)V"⟩ cX6_save 2 none ∈ lw_g := pkW_i bkw7 11 rfl
theorem w1136 : Cond.methodLink "PalmHours$State" 91 ⟨"java/lang/System", "arraycopy", "(Ljava/lang/Object;ILjava/lang/Object;II)V"⟩ ∈ lw_g := pkW_i bkw7 12 rfl
theorem w1137 : Cond.static ⟨"java/lang/System", "arraycopy", "(Ljava/lang/Object;ILjava/lang/Object;II)V"⟩ ∈ lw_g := pkW_i bkw7 13 rfl
theorem w1138 : Cond.native ⟨"java/lang/System", "arraycopy", "(Ljava/lang/Object;ILjava/lang/Object;II)V"⟩ ∈ lw_g := pkW_i bkw7 14 rfl
theorem w1139 : Cond.methodLink "PalmHours$Past" 29 ⟨"java/lang/Math", "min", "(II)I"⟩ ∈ lw_g := pkW_i bkw7 15 rfl
theorem w1140 : Cond.methodLink "PalmHours" 276 ⟨"PalmHours$State", "goOn", "(LPalmHours$Palm;)V"⟩ ∈ lw_g := pkW_i bkw7 16 rfl
theorem w1141 : Cond.instanceMethod ⟨"PalmHours$State", "goOn", "(LPalmHours$Palm;)V"⟩ ∈ lw_g := pkW_i bkw7 17 rfl
theorem w1142 : Cond.selects "PalmHours$State" ⟨"PalmHours$State", "goOn", "(LPalmHours$Palm;)V"⟩ ⟨"PalmHours$State", "goOn", "(LPalmHours$Palm;)V"⟩ ∈ lw_g := pkW_i bkw7 18 rfl
theorem w1143 : Cond.code ⟨"PalmHours$State", "goOn", "(LPalmHours$Palm;)V"⟩ cX6_goOn 3 none ∈ lw_g := pkW_i bkw7 19 rfl
theorem w1144 : Cond.methodLink "PalmHours$State" 59 ⟨"PalmHours$Palm", "goOn", "()V"⟩ ∈ lw_g := pkW_i bkw7 20 rfl
theorem w1145 : Cond.methodLink "PalmHours$State" 67 ⟨"java/lang/Math", "min", "(II)I"⟩ ∈ lw_g := pkW_i bkw7 21 rfl
theorem w1150 : Cond.methodLink "PalmHours" 284 ⟨"PalmHours", "letPass", "()I"⟩ ∈ lw_g := pkW_i bkw7 22 rfl
theorem w1152 : Cond.instanceMethod ⟨"PalmHours", "letPass", "()I"⟩ ∈ lw_g := pkW_i bkw7 23 rfl
theorem w1153 : Cond.code ⟨"PalmHours", "letPass", "()I"⟩ cX11_letPass 2 (some .int) ∈ lw_g := pkW_i bkw7 24 rfl
theorem w1154 : Cond.methodLink "PalmHours" 376 ⟨"PalmHours", "draw", "(I)I"⟩ ∈ lw_g := pkW_i bkw7 25 rfl
theorem w1156 : Cond.instanceMethod ⟨"PalmHours", "draw", "(I)I"⟩ ∈ lw_g := pkW_i bkw7 26 rfl
theorem w1157 : Cond.code ⟨"PalmHours", "draw", "(I)I"⟩ cX11_draw 2 (some .int) ∈ lw_g := pkW_i bkw7 27 rfl
theorem w1158 : Cond.constantLong "PalmHours" 370 (1103515245) ∈ lw_g := pkW_i bkw7 28 rfl
theorem w1159 : Cond.constantLong "PalmHours" 372 (12345) ∈ lw_g := pkW_i bkw7 29 rfl
theorem w1160 : Cond.constantLong "PalmHours" 374 (2147483647) ∈ lw_g := pkW_i bkw7 30 rfl
theorem w1161 : Cond.methodLink "PalmHours" 327 ⟨"PalmHours$State", "put", "(II)V"⟩ ∈ lw_g := pkW_i bkw7 31 rfl
theorem w1166 : Cond.methodLink "PalmHours" 287 ⟨"PalmHours", "putByAct", "(II)I"⟩ ∈ lw_g := pkW_i bkw7 32 rfl
theorem w1168 : Cond.instanceMethod ⟨"PalmHours", "putByAct", "(II)I"⟩ ∈ lw_g := pkW_i bkw7 33 rfl
theorem w1169 : Cond.code ⟨"PalmHours", "putByAct", "(II)I"⟩ cX11_putByAct 3 (some .int) ∈ lw_g := pkW_i bkw7 34 rfl
theorem w1178 : Cond.methodLink "PalmHours" 290 ⟨"PalmHours$Past", "bringBack", "(LPalmHours$State;)Z"⟩ ∈ lw_g := pkW_i bkw7 35 rfl
theorem w1179 : Cond.instanceMethod ⟨"PalmHours$Past", "bringBack", "(LPalmHours$State;)Z"⟩ ∈ lw_g := pkW_i bkw7 36 rfl
theorem w1180 : Cond.selects "PalmHours$Past" ⟨"PalmHours$Past", "bringBack", "(LPalmHours$State;)Z"⟩ ⟨"PalmHours$Past", "bringBack", "(LPalmHours$State;)Z"⟩ ∈ lw_g := pkW_i bkw7 37 rfl
theorem w1181 : Cond.code ⟨"PalmHours$Past", "bringBack", "(LPalmHours$State;)Z"⟩ cX2_bringBack 2 (some .boolean) ∈ lw_g := pkW_i bkw7 38 rfl
theorem w1182 : Cond.methodLink "PalmHours$Past" 35 ⟨"PalmHours$State", "bringBack", "([I)V"⟩ ∈ lw_g := pkW_i bkw7 39 rfl
theorem w1183 : Cond.instanceMethod ⟨"PalmHours$State", "bringBack", "([I)V"⟩ ∈ lw_g := pkW_i bkw7 40 rfl
theorem w1184 : Cond.selects "PalmHours$State" ⟨"PalmHours$State", "bringBack", "([I)V"⟩ ⟨"PalmHours$State", "bringBack", "([I)V"⟩ ∈ lw_g := pkW_i bkw7 41 rfl
theorem w1185 : Cond.code ⟨"PalmHours$State", "bringBack", "([I)V"⟩ cX6_bringBack 2 none ∈ lw_g := pkW_i bkw7 42 rfl
theorem w1198 : Cond.methodLink "PalmHours" 300 ⟨"PalmHours$State", "writeImage", "([I)I"⟩ ∈ lw_g := pkW_i bkw7 43 rfl
theorem w1199 : Cond.instanceMethod ⟨"PalmHours$State", "writeImage", "([I)I"⟩ ∈ lw_g := pkW_i bkw7 44 rfl
theorem w1200 : Cond.selects "PalmHours$State" ⟨"PalmHours$State", "writeImage", "([I)I"⟩ ⟨"PalmHours$State", "writeImage", "([I)I"⟩ ∈ lw_g := pkW_i bkw7 45 rfl
theorem w1201 : Cond.code ⟨"PalmHours$State", "writeImage", "([I)I"⟩ cX6_writeImage 5 (some .int) ∈ lw_g := pkW_i bkw7 46 rfl
theorem w1202 : Cond.methodLink "PalmHours$State" 97 ⟨"PalmHours$State", "imageSize", "()I"⟩ ∈ lw_g := pkW_i bkw7 47 rfl
theorem w1204 : Cond.instanceMethod ⟨"PalmHours$State", "imageSize", "()I"⟩ ∈ lw_g := pkW_i bkw7 48 rfl
theorem w1205 : Cond.code ⟨"PalmHours$State", "imageSize", "()I"⟩ cX6_imageSize 1 (some .int) ∈ lw_g := pkW_i bkw7 49 rfl
theorem w1206 : Cond.methodLink "PalmHours$State" 100 ⟨"PalmHours$State", "checkOf", "([II)I"⟩ ∈ lw_g := pkW_i bkw7 50 rfl
theorem w1207 : Cond.static ⟨"PalmHours$State", "checkOf", "([II)I"⟩ ∈ lw_g := pkW_i bkw7 51 rfl
theorem w1208 : Cond.code ⟨"PalmHours$State", "checkOf", "([II)I"⟩ cX6_checkOf 4 (some .int) ∈ lw_g := pkW_i bkw7 52 rfl
theorem w1217 : Cond.methodLink "PalmHours" 304 ⟨"PalmHours$State", "isImage", "(LPalmHours$Tape;)Z"⟩ ∈ lw_g := pkW_i bkw7 53 rfl
theorem w1218 : Cond.instanceMethod ⟨"PalmHours$State", "isImage", "(LPalmHours$Tape;)Z"⟩ ∈ lw_g := pkW_i bkw7 54 rfl
theorem w1219 : Cond.selects "PalmHours$State" ⟨"PalmHours$State", "isImage", "(LPalmHours$Tape;)Z"⟩ ⟨"PalmHours$State", "isImage", "(LPalmHours$Tape;)Z"⟩ ∈ lw_g := pkW_i bkw7 55 rfl
theorem w1220 : Cond.code ⟨"PalmHours$State", "isImage", "(LPalmHours$Tape;)Z"⟩ cX6_isImage 6 (some .boolean) ∈ lw_g := pkW_i bkw7 56 rfl
theorem w1221 : Cond.methodLink "PalmHours$State" 109 ⟨"PalmHours$Tape", "pairAt", "(I)I"⟩ ∈ lw_g := pkW_i bkw7 57 rfl
theorem w1222 : Cond.instanceMethod ⟨"PalmHours$Tape", "pairAt", "(I)I"⟩ ∈ lw_g := pkW_i bkw7 58 rfl
theorem w1223 : Cond.selects "PalmHours$Tape" ⟨"PalmHours$Tape", "pairAt", "(I)I"⟩ ⟨"PalmHours$Tape", "pairAt", "(I)I"⟩ ∈ lw_g := pkW_i bkw7 59 rfl
theorem w1224 : Cond.code ⟨"PalmHours$Tape", "pairAt", "(I)I"⟩ cX7_pairAt 2 (some .int) ∈ lw_g := pkW_i bkw7 60 rfl
theorem w1225 : Cond.methodLink "PalmHours$Tape" 19 ⟨"PalmHours$Tape", "at", "(I)I"⟩ ∈ lw_g := pkW_i bkw7 61 rfl
theorem w1226 : Cond.methodLink "PalmHours$State" 113 ⟨"PalmHours$Tape", "at", "(I)I"⟩ ∈ lw_g := pkW_i bkw7 62 rfl
theorem w1227 : Cond.methodLink "PalmHours$State" 116 ⟨"PalmHours$Town", "isThing", "(I)Z"⟩ ∈ lw_g := pkW_i bkw7 63 rfl
theorem w1228 : Cond.methodLink "PalmHours" 308 ⟨"PalmHours$State", "readImage", "(LPalmHours$Tape;)V"⟩ ∈ lw_g := pkW_i bkw7 64 rfl
theorem w1229 : Cond.instanceMethod ⟨"PalmHours$State", "readImage", "(LPalmHours$Tape;)V"⟩ ∈ lw_g := pkW_i bkw7 65 rfl
theorem w1230 : Cond.selects "PalmHours$State" ⟨"PalmHours$State", "readImage", "(LPalmHours$Tape;)V"⟩ ⟨"PalmHours$State", "readImage", "(LPalmHours$Tape;)V"⟩ ∈ lw_g := pkW_i bkw7 66 rfl
theorem w1231 : Cond.code ⟨"PalmHours$State", "readImage", "(LPalmHours$Tape;)V"⟩ cX6_readImage 4 none ∈ lw_g := pkW_i bkw7 67 rfl
theorem w1242 : Cond.fieldLink "PalmHoursModel" 7 "PalmHoursModel" "tape" "[I" ∈ lw_g := pkW_i bkw7 68 rfl
theorem w1243 : Cond.fieldLink "PalmHoursModel" 13 "PalmHoursModel" "taped" "I" ∈ lw_g := pkW_i bkw7 69 rfl
theorem w1244 : Cond.fieldLink "PalmHoursModel" 17 "PalmHoursModel" "size" "I" ∈ lw_g := pkW_i bkw7 70 rfl
theorem w1245 : Cond.fieldLink "PalmHoursModel" 20 "PalmHoursModel" "sign" "I" ∈ lw_g := pkW_i bkw7 71 rfl
theorem w1246 : Cond.fieldLink "PalmHoursModel" 23 "PalmHoursModel" "signAt" "I" ∈ lw_g := pkW_i bkw7 72 rfl
theorem w1247 : Cond.fieldLink "PalmHoursModel" 26 "PalmHoursModel" "signEnd" "I" ∈ lw_g := pkW_i bkw7 73 rfl
theorem w1248 : Cond.fieldLink "PalmHoursModel" 29 "PalmHoursModel" "value" "I" ∈ lw_g := pkW_i bkw7 74 rfl
theorem w1249 : Cond.fieldLink "PalmHoursModel" 32 "PalmHoursModel" "word" "J" ∈ lw_g := pkW_i bkw7 75 rfl
theorem w1250 : Cond.fieldLink "PalmHoursModel" 36 "PalmHoursModel" "faultKind" "I" ∈ lw_g := pkW_i bkw7 76 rfl
theorem w1251 : Cond.fieldLink "PalmHoursModel" 39 "PalmHoursModel" "faultPlace" "I" ∈ lw_g := pkW_i bkw7 77 rfl
theorem w1252 : Cond.fieldLink "PalmHoursModel" 42 "PalmHoursModel" "toldKind" "I" ∈ lw_g := pkW_i bkw7 78 rfl
theorem w1253 : Cond.fieldLink "PalmHoursModel" 45 "PalmHoursModel" "toldPlace" "I" ∈ lw_g := pkW_i bkw7 79 rfl
theorem w1254 : Cond.fieldLink "PalmHoursModel" 48 "PalmHoursModel" "lexAt" "I" ∈ lw_g := pkW_i bkw7 80 rfl
theorem w1255 : Cond.fieldLink "PalmHoursModel" 51 "PalmHoursModel" "bank" "I" ∈ lw_g := pkW_i bkw7 81 rfl
theorem w1256 : Cond.fieldLink "PalmHoursModel" 54 "PalmHoursModel" "things" "[I" ∈ lw_g := pkW_i bkw7 82 rfl
theorem w1257 : Cond.fieldLink "PalmHoursModel" 57 "PalmHoursModel" "weighOf" "[I" ∈ lw_g := pkW_i bkw7 83 rfl
theorem w1258 : Cond.fieldLink "PalmHoursModel" 60 "PalmHoursModel" "lastsOf" "[I" ∈ lw_g := pkW_i bkw7 84 rfl
theorem w1259 : Cond.fieldLink "PalmHoursModel" 63 "PalmHoursModel" "corners" "[I" ∈ lw_g := pkW_i bkw7 85 rfl
theorem w1260 : Cond.fieldLink "PalmHoursModel" 66 "PalmHoursModel" "palmTold" "[I" ∈ lw_g := pkW_i bkw7 86 rfl
theorem w1261 : Cond.fieldLink "PalmHoursModel" 69 "PalmHoursModel" "roads" "[I" ∈ lw_g := pkW_i bkw7 87 rfl
theorem w1262 : Cond.fieldLink "PalmHoursModel" 72 "PalmHoursModel" "stepsOf" "[I" ∈ lw_g := pkW_i bkw7 88 rfl
theorem w1263 : Cond.fieldLink "PalmHoursModel" 75 "PalmHoursModel" "farOf" "[I" ∈ lw_g := pkW_i bkw7 89 rfl
theorem w1264 : Cond.fieldLink "PalmHoursModel" 78 "PalmHoursModel" "doings" "[I" ∈ lw_g := pkW_i bkw7 90 rfl
theorem w1265 : Cond.fieldLink "PalmHoursModel" 81 "PalmHoursModel" "atOf" "[I" ∈ lw_g := pkW_i bkw7 91 rfl
theorem w1266 : Cond.fieldLink "PalmHoursModel" 84 "PalmHoursModel" "hourOf" "[I" ∈ lw_g := pkW_i bkw7 92 rfl
theorem w1267 : Cond.fieldLink "PalmHoursModel" 87 "PalmHoursModel" "passTold" "[I" ∈ lw_g := pkW_i bkw7 93 rfl
theorem w1268 : Cond.fieldLink "PalmHoursModel" 90 "PalmHoursModel" "sumFrom" "[I" ∈ lw_g := pkW_i bkw7 94 rfl
theorem w1269 : Cond.fieldLink "PalmHoursModel" 93 "PalmHoursModel" "sumBehind" "[I" ∈ lw_g := pkW_i bkw7 95 rfl
def bkwl8 : List (Nat × Cond) := [(1270, Cond.fieldLink "PalmHoursModel" 96 "PalmHoursModel" "codeSort" "[I"), (1271, Cond.fieldLink "PalmHoursModel" 99 "PalmHoursModel" "codeValue" "[I"), (1272, Cond.fieldLink "PalmHoursModel" 102 "PalmHoursModel" "thingName" "[J"), (1273, Cond.fieldLink "PalmHoursModel" 106 "PalmHoursModel" "cornerName" "[J"), (1274, Cond.fieldLink "PalmHoursModel" 109 "PalmHoursModel" "doingName" "[J"), (1275, Cond.fieldLink "PalmHoursModel" 112 "PalmHoursModel" "codes" "I"), (1276, Cond.fieldLink "PalmHoursModel" 115 "PalmHoursModel" "in" "I"), (1277, Cond.fieldLink "PalmHoursModel" 118 "PalmHoursModel" "isGone" "Z"), (1278, Cond.fieldLink "PalmHoursModel" 122 "PalmHoursModel" "frame" "[I"), (1279, Cond.fieldLink "PalmHoursModel" 125 "PalmHoursModel" "phase" "[I"), (1280, Cond.fieldLink "PalmHoursModel" 128 "PalmHoursModel" "begins" "[Z"), (1281, Cond.fieldLink "PalmHoursModel" 132 "PalmHoursModel" "pair" "[I"), (1282, Cond.fieldLink "PalmHoursModel" 135 "PalmHoursModel" "base" "[I"), (1283, Cond.fieldLink "PalmHoursModel" 138 "PalmHoursModel" "deep" "I"), (1284, Cond.fieldLink "PalmHoursModel" 141 "PalmHoursModel" "open" "I"), (1285, Cond.fieldLink "PalmHoursModel" 144 "PalmHoursModel" "ops" "[I"), (1286, Cond.fieldLink "PalmHoursModel" 147 "PalmHoursModel" "opMany" "I"), (1287, Cond.fieldLink "PalmHoursModel" 150 "PalmHoursModel" "operand" "Z"), (1288, Cond.fieldLink "PalmHoursModel" 153 "PalmHoursModel" "refused" "[I"), (1289, Cond.fieldLink "PalmHoursModel" 156 "PalmHoursModel" "minuteOf" "[I"), (1290, Cond.fieldLink "PalmHoursModel" 159 "PalmHoursModel" "thingOf" "[I"), (1291, Cond.fieldLink "PalmHoursModel" 162 "PalmHoursModel" "heldOf" "[I"), (1292, Cond.fieldLink "PalmHoursModel" 165 "PalmHoursModel" "doneOf" "[I"), (1293, Cond.fieldLink "PalmHoursModel" 168 "PalmHoursModel" "keptMany" "[I"), (1294, Cond.fieldLink "PalmHoursModel" 171 "PalmHoursModel" "keptRow" "[I"), (1295, Cond.fieldLink "PalmHoursModel" 174 "PalmHoursModel" "undoFirst" "I"), (1296, Cond.fieldLink "PalmHoursModel" 177 "PalmHoursModel" "undos" "I"), (1297, Cond.fieldLink "PalmHoursModel" 180 "PalmHoursModel" "seeds" "J"), (1298, Cond.fieldLink "PalmHoursModel" 183 "PalmHoursModel" "stack" "[J"), (1299, Cond.fieldLink "PalmHoursModel" 186 "PalmHoursModel" "asked" "[I"), (1300, Cond.fieldLink "PalmHoursModel" 189 "PalmHoursModel" "given" "[I"), (1301, Cond.fieldLink "PalmHoursModel" 192 "PalmHoursModel" "bestGiven" "[I"), (1302, Cond.fieldLink "PalmHoursModel" 195 "PalmHoursModel" "walkAt" "[I"), (1303, Cond.fieldLink "PalmHoursModel" 198 "PalmHoursModel" "rows" "I"), (1304, Cond.fieldLink "PalmHoursModel" 201 "PalmHoursModel" "rowMinutes" "[I"), (1305, Cond.fieldLink "PalmHoursModel" 204 "PalmHoursModel" "rowCorner" "[I"), (1306, Cond.fieldLink "PalmHoursModel" 207 "PalmHoursModel" "rowHour" "[I"), (1307, Cond.fieldLink "PalmHoursModel" 210 "PalmHoursModel" "hourBy" "[I"), (1308, Cond.fieldLink "PalmHoursModel" 213 "PalmHoursModel" "out" "[I"), (1309, Cond.fieldLink "PalmHoursModel" 216 "PalmHoursModel" "outs" "I"), (1453, Cond.methodLink "PalmHoursModel" 219 ⟨"PalmHoursModel", "refuses", "(I)I"⟩), (1455, Cond.instanceMethod ⟨"PalmHoursModel", "refuses", "(I)I"⟩), (1456, Cond.code ⟨"PalmHoursModel", "refuses", "(I)I"⟩ cX12_refuses 2 (some .int)), (1457, Cond.methodLink "PalmHoursModel" 223 ⟨"PalmHoursModel", "put", "(I)V"⟩), (1459, Cond.instanceMethod ⟨"PalmHoursModel", "put", "(I)V"⟩), (1460, Cond.code ⟨"PalmHoursModel", "put", "(I)V"⟩ cX12_put 3 none), (1469, Cond.methodLink "PalmHoursModel" 369 ⟨"PalmHoursModel", "at", "(III)I"⟩), (1471, Cond.instanceMethod ⟨"PalmHoursModel", "at", "(III)I"⟩), (1472, Cond.code ⟨"PalmHoursModel", "at", "(III)I"⟩ cX12_at 4 (some .int)), (1473, Cond.methodLink "PalmHoursModel" 244 ⟨"PalmHoursModel", "ahead", "()V"⟩), (1475, Cond.instanceMethod ⟨"PalmHoursModel", "ahead", "()V"⟩), (1476, Cond.code ⟨"PalmHoursModel", "ahead", "()V"⟩ cX12_ahead 6 none), (1477, Cond.methodLink "PalmHoursModel" 231 ⟨"PalmHoursModel", "isLetter", "(I)Z"⟩), (1478, Cond.static ⟨"PalmHoursModel", "isLetter", "(I)Z"⟩), (1479, Cond.code ⟨"PalmHoursModel", "isLetter", "(I)Z"⟩ cX12_isLetter 1 (some .boolean)), (1480, Cond.methodLink "PalmHoursModel" 235 ⟨"PalmHoursModel", "isDigit", "(I)Z"⟩), (1481, Cond.static ⟨"PalmHoursModel", "isDigit", "(I)Z"⟩), (1482, Cond.code ⟨"PalmHoursModel", "isDigit", "(I)Z"⟩ cX12_isDigit 1 (some .boolean)), (1483, Cond.methodLink "PalmHoursModel" 400 ⟨"PalmHoursModel", "statement", "()V"⟩), (1485, Cond.instanceMethod ⟨"PalmHoursModel", "statement", "()V"⟩), (1486, Cond.code ⟨"PalmHoursModel", "statement", "()V"⟩ cX12_statement 1 none), (1487, Cond.methodLink "PalmHoursModel" 238 ⟨"PalmHoursModel", "lex", "()V"⟩), (1489, Cond.instanceMethod ⟨"PalmHoursModel", "lex", "()V"⟩), (1490, Cond.code ⟨"PalmHoursModel", "lex", "()V"⟩ cX12_lex 1 none), (1491, Cond.methodLink "PalmHoursModel" 227 ⟨"PalmHoursModel", "blame", "(II)V"⟩), (1493, Cond.instanceMethod ⟨"PalmHoursModel", "blame", "(II)V"⟩), (1494, Cond.code ⟨"PalmHoursModel", "blame", "(II)V"⟩ cX12_blame 3 none), (1495, Cond.constantLong "PalmHoursModel" 247 (499967946343)), (1496, Cond.methodLink "PalmHoursModel" 321 ⟨"PalmHoursModel", "isWord", "(J)Z"⟩), (1498, Cond.instanceMethod ⟨"PalmHoursModel", "isWord", "(J)Z"⟩), (1499, Cond.code ⟨"PalmHoursModel", "isWord", "(J)Z"⟩ cX12_isWord 3 (some .boolean)), (1500, Cond.methodLink "PalmHoursModel" 377 ⟨"PalmHoursModel", "thinging", "()V"⟩), (1502, Cond.instanceMethod ⟨"PalmHoursModel", "thinging", "()V"⟩), (1503, Cond.code ⟨"PalmHoursModel", "thinging", "()V"⟩ cX12_thinging 2 none), (1504, Cond.methodLink "PalmHoursModel" 351 ⟨"PalmHoursModel", "counts", "(Z)Z"⟩), (1506, Cond.instanceMethod ⟨"PalmHoursModel", "counts", "(Z)Z"⟩), (1507, Cond.code ⟨"PalmHoursModel", "counts", "(Z)Z"⟩ cX12_counts 2 (some .boolean)), (1508, Cond.methodLink "PalmHoursModel" 355 ⟨"PalmHoursModel", "fresh", "()J"⟩), (1510, Cond.instanceMethod ⟨"PalmHoursModel", "fresh", "()J"⟩), (1511, Cond.code ⟨"PalmHoursModel", "fresh", "()J"⟩ cX12_fresh 3 (some .long)), (1512, Cond.methodLink "PalmHoursModel" 340 ⟨"PalmHoursModel", "isOwn", "(J)Z"⟩), (1514, Cond.instanceMethod ⟨"PalmHoursModel", "isOwn", "(J)Z"⟩), (1515, Cond.code ⟨"PalmHoursModel", "isOwn", "(J)Z"⟩ cX12_isOwn 3 (some .boolean)), (1516, Cond.constantLong "PalmHoursModel" 249 (512802514792)), (1517, Cond.constantLong "PalmHoursModel" 251 (465491424371)), (1518, Cond.constantLong "PalmHoursModel" 253 (109330312357234)), (1519, Cond.constantLong "PalmHoursModel" 255 (1919902052)), (1520, Cond.constantLong "PalmHoursModel" 257 (29807)), (1521, Cond.constantLong "PalmHoursModel" 259 (495874044019)), (1522, Cond.constantLong "PalmHoursModel" 261 (1885432941)), (1523, Cond.constantLong "PalmHoursModel" 263 (6840691)), (1524, Cond.constantLong "PalmHoursModel" 265 (431365910119)), (1525, Cond.constantLong "PalmHoursModel" 267 (24948)), (1526, Cond.constantLong "PalmHoursModel" 269 (1752135026)), (1527, Cond.constantLong "PalmHoursModel" 271 (1935767923)), (1528, Cond.constantLong "PalmHoursModel" 273 (1735356005))]
theorem bkw8 : pkW lw_tbl 0 bkwl8 = true := by decide +kernel
theorem w1270 : Cond.fieldLink "PalmHoursModel" 96 "PalmHoursModel" "codeSort" "[I" ∈ lw_g := pkW_i bkw8 0 rfl
theorem w1271 : Cond.fieldLink "PalmHoursModel" 99 "PalmHoursModel" "codeValue" "[I" ∈ lw_g := pkW_i bkw8 1 rfl
theorem w1272 : Cond.fieldLink "PalmHoursModel" 102 "PalmHoursModel" "thingName" "[J" ∈ lw_g := pkW_i bkw8 2 rfl
theorem w1273 : Cond.fieldLink "PalmHoursModel" 106 "PalmHoursModel" "cornerName" "[J" ∈ lw_g := pkW_i bkw8 3 rfl
theorem w1274 : Cond.fieldLink "PalmHoursModel" 109 "PalmHoursModel" "doingName" "[J" ∈ lw_g := pkW_i bkw8 4 rfl
theorem w1275 : Cond.fieldLink "PalmHoursModel" 112 "PalmHoursModel" "codes" "I" ∈ lw_g := pkW_i bkw8 5 rfl
theorem w1276 : Cond.fieldLink "PalmHoursModel" 115 "PalmHoursModel" "in" "I" ∈ lw_g := pkW_i bkw8 6 rfl
theorem w1277 : Cond.fieldLink "PalmHoursModel" 118 "PalmHoursModel" "isGone" "Z" ∈ lw_g := pkW_i bkw8 7 rfl
theorem w1278 : Cond.fieldLink "PalmHoursModel" 122 "PalmHoursModel" "frame" "[I" ∈ lw_g := pkW_i bkw8 8 rfl
theorem w1279 : Cond.fieldLink "PalmHoursModel" 125 "PalmHoursModel" "phase" "[I" ∈ lw_g := pkW_i bkw8 9 rfl
theorem w1280 : Cond.fieldLink "PalmHoursModel" 128 "PalmHoursModel" "begins" "[Z" ∈ lw_g := pkW_i bkw8 10 rfl
theorem w1281 : Cond.fieldLink "PalmHoursModel" 132 "PalmHoursModel" "pair" "[I" ∈ lw_g := pkW_i bkw8 11 rfl
theorem w1282 : Cond.fieldLink "PalmHoursModel" 135 "PalmHoursModel" "base" "[I" ∈ lw_g := pkW_i bkw8 12 rfl
theorem w1283 : Cond.fieldLink "PalmHoursModel" 138 "PalmHoursModel" "deep" "I" ∈ lw_g := pkW_i bkw8 13 rfl
theorem w1284 : Cond.fieldLink "PalmHoursModel" 141 "PalmHoursModel" "open" "I" ∈ lw_g := pkW_i bkw8 14 rfl
theorem w1285 : Cond.fieldLink "PalmHoursModel" 144 "PalmHoursModel" "ops" "[I" ∈ lw_g := pkW_i bkw8 15 rfl
theorem w1286 : Cond.fieldLink "PalmHoursModel" 147 "PalmHoursModel" "opMany" "I" ∈ lw_g := pkW_i bkw8 16 rfl
theorem w1287 : Cond.fieldLink "PalmHoursModel" 150 "PalmHoursModel" "operand" "Z" ∈ lw_g := pkW_i bkw8 17 rfl
theorem w1288 : Cond.fieldLink "PalmHoursModel" 153 "PalmHoursModel" "refused" "[I" ∈ lw_g := pkW_i bkw8 18 rfl
theorem w1289 : Cond.fieldLink "PalmHoursModel" 156 "PalmHoursModel" "minuteOf" "[I" ∈ lw_g := pkW_i bkw8 19 rfl
theorem w1290 : Cond.fieldLink "PalmHoursModel" 159 "PalmHoursModel" "thingOf" "[I" ∈ lw_g := pkW_i bkw8 20 rfl
theorem w1291 : Cond.fieldLink "PalmHoursModel" 162 "PalmHoursModel" "heldOf" "[I" ∈ lw_g := pkW_i bkw8 21 rfl
theorem w1292 : Cond.fieldLink "PalmHoursModel" 165 "PalmHoursModel" "doneOf" "[I" ∈ lw_g := pkW_i bkw8 22 rfl
theorem w1293 : Cond.fieldLink "PalmHoursModel" 168 "PalmHoursModel" "keptMany" "[I" ∈ lw_g := pkW_i bkw8 23 rfl
theorem w1294 : Cond.fieldLink "PalmHoursModel" 171 "PalmHoursModel" "keptRow" "[I" ∈ lw_g := pkW_i bkw8 24 rfl
theorem w1295 : Cond.fieldLink "PalmHoursModel" 174 "PalmHoursModel" "undoFirst" "I" ∈ lw_g := pkW_i bkw8 25 rfl
theorem w1296 : Cond.fieldLink "PalmHoursModel" 177 "PalmHoursModel" "undos" "I" ∈ lw_g := pkW_i bkw8 26 rfl
theorem w1297 : Cond.fieldLink "PalmHoursModel" 180 "PalmHoursModel" "seeds" "J" ∈ lw_g := pkW_i bkw8 27 rfl
theorem w1298 : Cond.fieldLink "PalmHoursModel" 183 "PalmHoursModel" "stack" "[J" ∈ lw_g := pkW_i bkw8 28 rfl
theorem w1299 : Cond.fieldLink "PalmHoursModel" 186 "PalmHoursModel" "asked" "[I" ∈ lw_g := pkW_i bkw8 29 rfl
theorem w1300 : Cond.fieldLink "PalmHoursModel" 189 "PalmHoursModel" "given" "[I" ∈ lw_g := pkW_i bkw8 30 rfl
theorem w1301 : Cond.fieldLink "PalmHoursModel" 192 "PalmHoursModel" "bestGiven" "[I" ∈ lw_g := pkW_i bkw8 31 rfl
theorem w1302 : Cond.fieldLink "PalmHoursModel" 195 "PalmHoursModel" "walkAt" "[I" ∈ lw_g := pkW_i bkw8 32 rfl
theorem w1303 : Cond.fieldLink "PalmHoursModel" 198 "PalmHoursModel" "rows" "I" ∈ lw_g := pkW_i bkw8 33 rfl
theorem w1304 : Cond.fieldLink "PalmHoursModel" 201 "PalmHoursModel" "rowMinutes" "[I" ∈ lw_g := pkW_i bkw8 34 rfl
theorem w1305 : Cond.fieldLink "PalmHoursModel" 204 "PalmHoursModel" "rowCorner" "[I" ∈ lw_g := pkW_i bkw8 35 rfl
theorem w1306 : Cond.fieldLink "PalmHoursModel" 207 "PalmHoursModel" "rowHour" "[I" ∈ lw_g := pkW_i bkw8 36 rfl
theorem w1307 : Cond.fieldLink "PalmHoursModel" 210 "PalmHoursModel" "hourBy" "[I" ∈ lw_g := pkW_i bkw8 37 rfl
theorem w1308 : Cond.fieldLink "PalmHoursModel" 213 "PalmHoursModel" "out" "[I" ∈ lw_g := pkW_i bkw8 38 rfl
theorem w1309 : Cond.fieldLink "PalmHoursModel" 216 "PalmHoursModel" "outs" "I" ∈ lw_g := pkW_i bkw8 39 rfl
theorem w1453 : Cond.methodLink "PalmHoursModel" 219 ⟨"PalmHoursModel", "refuses", "(I)I"⟩ ∈ lw_g := pkW_i bkw8 40 rfl
theorem w1455 : Cond.instanceMethod ⟨"PalmHoursModel", "refuses", "(I)I"⟩ ∈ lw_g := pkW_i bkw8 41 rfl
theorem w1456 : Cond.code ⟨"PalmHoursModel", "refuses", "(I)I"⟩ cX12_refuses 2 (some .int) ∈ lw_g := pkW_i bkw8 42 rfl
theorem w1457 : Cond.methodLink "PalmHoursModel" 223 ⟨"PalmHoursModel", "put", "(I)V"⟩ ∈ lw_g := pkW_i bkw8 43 rfl
theorem w1459 : Cond.instanceMethod ⟨"PalmHoursModel", "put", "(I)V"⟩ ∈ lw_g := pkW_i bkw8 44 rfl
theorem w1460 : Cond.code ⟨"PalmHoursModel", "put", "(I)V"⟩ cX12_put 3 none ∈ lw_g := pkW_i bkw8 45 rfl
theorem w1469 : Cond.methodLink "PalmHoursModel" 369 ⟨"PalmHoursModel", "at", "(III)I"⟩ ∈ lw_g := pkW_i bkw8 46 rfl
theorem w1471 : Cond.instanceMethod ⟨"PalmHoursModel", "at", "(III)I"⟩ ∈ lw_g := pkW_i bkw8 47 rfl
theorem w1472 : Cond.code ⟨"PalmHoursModel", "at", "(III)I"⟩ cX12_at 4 (some .int) ∈ lw_g := pkW_i bkw8 48 rfl
theorem w1473 : Cond.methodLink "PalmHoursModel" 244 ⟨"PalmHoursModel", "ahead", "()V"⟩ ∈ lw_g := pkW_i bkw8 49 rfl
theorem w1475 : Cond.instanceMethod ⟨"PalmHoursModel", "ahead", "()V"⟩ ∈ lw_g := pkW_i bkw8 50 rfl
theorem w1476 : Cond.code ⟨"PalmHoursModel", "ahead", "()V"⟩ cX12_ahead 6 none ∈ lw_g := pkW_i bkw8 51 rfl
theorem w1477 : Cond.methodLink "PalmHoursModel" 231 ⟨"PalmHoursModel", "isLetter", "(I)Z"⟩ ∈ lw_g := pkW_i bkw8 52 rfl
theorem w1478 : Cond.static ⟨"PalmHoursModel", "isLetter", "(I)Z"⟩ ∈ lw_g := pkW_i bkw8 53 rfl
theorem w1479 : Cond.code ⟨"PalmHoursModel", "isLetter", "(I)Z"⟩ cX12_isLetter 1 (some .boolean) ∈ lw_g := pkW_i bkw8 54 rfl
theorem w1480 : Cond.methodLink "PalmHoursModel" 235 ⟨"PalmHoursModel", "isDigit", "(I)Z"⟩ ∈ lw_g := pkW_i bkw8 55 rfl
theorem w1481 : Cond.static ⟨"PalmHoursModel", "isDigit", "(I)Z"⟩ ∈ lw_g := pkW_i bkw8 56 rfl
theorem w1482 : Cond.code ⟨"PalmHoursModel", "isDigit", "(I)Z"⟩ cX12_isDigit 1 (some .boolean) ∈ lw_g := pkW_i bkw8 57 rfl
theorem w1483 : Cond.methodLink "PalmHoursModel" 400 ⟨"PalmHoursModel", "statement", "()V"⟩ ∈ lw_g := pkW_i bkw8 58 rfl
theorem w1485 : Cond.instanceMethod ⟨"PalmHoursModel", "statement", "()V"⟩ ∈ lw_g := pkW_i bkw8 59 rfl
theorem w1486 : Cond.code ⟨"PalmHoursModel", "statement", "()V"⟩ cX12_statement 1 none ∈ lw_g := pkW_i bkw8 60 rfl
theorem w1487 : Cond.methodLink "PalmHoursModel" 238 ⟨"PalmHoursModel", "lex", "()V"⟩ ∈ lw_g := pkW_i bkw8 61 rfl
theorem w1489 : Cond.instanceMethod ⟨"PalmHoursModel", "lex", "()V"⟩ ∈ lw_g := pkW_i bkw8 62 rfl
theorem w1490 : Cond.code ⟨"PalmHoursModel", "lex", "()V"⟩ cX12_lex 1 none ∈ lw_g := pkW_i bkw8 63 rfl
theorem w1491 : Cond.methodLink "PalmHoursModel" 227 ⟨"PalmHoursModel", "blame", "(II)V"⟩ ∈ lw_g := pkW_i bkw8 64 rfl
theorem w1493 : Cond.instanceMethod ⟨"PalmHoursModel", "blame", "(II)V"⟩ ∈ lw_g := pkW_i bkw8 65 rfl
theorem w1494 : Cond.code ⟨"PalmHoursModel", "blame", "(II)V"⟩ cX12_blame 3 none ∈ lw_g := pkW_i bkw8 66 rfl
theorem w1495 : Cond.constantLong "PalmHoursModel" 247 (499967946343) ∈ lw_g := pkW_i bkw8 67 rfl
theorem w1496 : Cond.methodLink "PalmHoursModel" 321 ⟨"PalmHoursModel", "isWord", "(J)Z"⟩ ∈ lw_g := pkW_i bkw8 68 rfl
theorem w1498 : Cond.instanceMethod ⟨"PalmHoursModel", "isWord", "(J)Z"⟩ ∈ lw_g := pkW_i bkw8 69 rfl
theorem w1499 : Cond.code ⟨"PalmHoursModel", "isWord", "(J)Z"⟩ cX12_isWord 3 (some .boolean) ∈ lw_g := pkW_i bkw8 70 rfl
theorem w1500 : Cond.methodLink "PalmHoursModel" 377 ⟨"PalmHoursModel", "thinging", "()V"⟩ ∈ lw_g := pkW_i bkw8 71 rfl
theorem w1502 : Cond.instanceMethod ⟨"PalmHoursModel", "thinging", "()V"⟩ ∈ lw_g := pkW_i bkw8 72 rfl
theorem w1503 : Cond.code ⟨"PalmHoursModel", "thinging", "()V"⟩ cX12_thinging 2 none ∈ lw_g := pkW_i bkw8 73 rfl
theorem w1504 : Cond.methodLink "PalmHoursModel" 351 ⟨"PalmHoursModel", "counts", "(Z)Z"⟩ ∈ lw_g := pkW_i bkw8 74 rfl
theorem w1506 : Cond.instanceMethod ⟨"PalmHoursModel", "counts", "(Z)Z"⟩ ∈ lw_g := pkW_i bkw8 75 rfl
theorem w1507 : Cond.code ⟨"PalmHoursModel", "counts", "(Z)Z"⟩ cX12_counts 2 (some .boolean) ∈ lw_g := pkW_i bkw8 76 rfl
theorem w1508 : Cond.methodLink "PalmHoursModel" 355 ⟨"PalmHoursModel", "fresh", "()J"⟩ ∈ lw_g := pkW_i bkw8 77 rfl
theorem w1510 : Cond.instanceMethod ⟨"PalmHoursModel", "fresh", "()J"⟩ ∈ lw_g := pkW_i bkw8 78 rfl
theorem w1511 : Cond.code ⟨"PalmHoursModel", "fresh", "()J"⟩ cX12_fresh 3 (some .long) ∈ lw_g := pkW_i bkw8 79 rfl
theorem w1512 : Cond.methodLink "PalmHoursModel" 340 ⟨"PalmHoursModel", "isOwn", "(J)Z"⟩ ∈ lw_g := pkW_i bkw8 80 rfl
theorem w1514 : Cond.instanceMethod ⟨"PalmHoursModel", "isOwn", "(J)Z"⟩ ∈ lw_g := pkW_i bkw8 81 rfl
theorem w1515 : Cond.code ⟨"PalmHoursModel", "isOwn", "(J)Z"⟩ cX12_isOwn 3 (some .boolean) ∈ lw_g := pkW_i bkw8 82 rfl
theorem w1516 : Cond.constantLong "PalmHoursModel" 249 (512802514792) ∈ lw_g := pkW_i bkw8 83 rfl
theorem w1517 : Cond.constantLong "PalmHoursModel" 251 (465491424371) ∈ lw_g := pkW_i bkw8 84 rfl
theorem w1518 : Cond.constantLong "PalmHoursModel" 253 (109330312357234) ∈ lw_g := pkW_i bkw8 85 rfl
theorem w1519 : Cond.constantLong "PalmHoursModel" 255 (1919902052) ∈ lw_g := pkW_i bkw8 86 rfl
theorem w1520 : Cond.constantLong "PalmHoursModel" 257 (29807) ∈ lw_g := pkW_i bkw8 87 rfl
theorem w1521 : Cond.constantLong "PalmHoursModel" 259 (495874044019) ∈ lw_g := pkW_i bkw8 88 rfl
theorem w1522 : Cond.constantLong "PalmHoursModel" 261 (1885432941) ∈ lw_g := pkW_i bkw8 89 rfl
theorem w1523 : Cond.constantLong "PalmHoursModel" 263 (6840691) ∈ lw_g := pkW_i bkw8 90 rfl
theorem w1524 : Cond.constantLong "PalmHoursModel" 265 (431365910119) ∈ lw_g := pkW_i bkw8 91 rfl
theorem w1525 : Cond.constantLong "PalmHoursModel" 267 (24948) ∈ lw_g := pkW_i bkw8 92 rfl
theorem w1526 : Cond.constantLong "PalmHoursModel" 269 (1752135026) ∈ lw_g := pkW_i bkw8 93 rfl
theorem w1527 : Cond.constantLong "PalmHoursModel" 271 (1935767923) ∈ lw_g := pkW_i bkw8 94 rfl
theorem w1528 : Cond.constantLong "PalmHoursModel" 273 (1735356005) ∈ lw_g := pkW_i bkw8 95 rfl
def bkwl9 : List (Nat × Cond) := [(1529, Cond.constantLong "PalmHoursModel" 275 (1885434739)), (1530, Cond.constantLong "PalmHoursModel" 277 (1751477348)), (1531, Cond.constantLong "PalmHoursModel" 279 (120299592184933)), (1532, Cond.constantLong "PalmHoursModel" 281 (435627783289)), (1533, Cond.constantLong "PalmHoursModel" 283 (26982)), (1534, Cond.constantLong "PalmHoursModel" 285 (28530)), (1535, Cond.constantLong "PalmHoursModel" 287 (6385252)), (1536, Cond.constantLong "PalmHoursModel" 289 (7237492)), (1537, Cond.constantLong "PalmHoursModel" 291 (6384748)), (1538, Cond.constantLong "PalmHoursModel" 293 (7170414)), (1539, Cond.constantLong "PalmHoursModel" 295 (7168376)), (1540, Cond.methodLink "PalmHoursModel" 343 ⟨"PalmHoursModel", "named", "(IJ)I"⟩), (1542, Cond.instanceMethod ⟨"PalmHoursModel", "named", "(IJ)I"⟩), (1543, Cond.code ⟨"PalmHoursModel", "named", "(IJ)I"⟩ cX12_named 5 (some .int)), (1544, Cond.methodLink "PalmHoursModel" 297 ⟨"PalmHoursModel", "manyOf", "(II)I"⟩), (1546, Cond.instanceMethod ⟨"PalmHoursModel", "manyOf", "(II)I"⟩), (1547, Cond.code ⟨"PalmHoursModel", "manyOf", "(II)I"⟩ cX12_manyOf 3 (some .int)), (1548, Cond.methodLink "PalmHoursModel" 301 ⟨"PalmHoursModel", "nameOf", "(III)J"⟩), (1550, Cond.instanceMethod ⟨"PalmHoursModel", "nameOf", "(III)J"⟩), (1551, Cond.code ⟨"PalmHoursModel", "nameOf", "(III)J"⟩ cX12_nameOf 4 (some .long)), (1552, Cond.methodLink "PalmHoursModel" 359 ⟨"PalmHoursModel", "must", "(J)V"⟩), (1554, Cond.instanceMethod ⟨"PalmHoursModel", "must", "(J)V"⟩), (1555, Cond.code ⟨"PalmHoursModel", "must", "(J)V"⟩ cX12_must_ 3 none), (1556, Cond.methodLink "PalmHoursModel" 363 ⟨"PalmHoursModel", "number", "(II)I"⟩), (1558, Cond.instanceMethod ⟨"PalmHoursModel", "number", "(II)I"⟩), (1559, Cond.code ⟨"PalmHoursModel", "number", "(II)I"⟩ cX12_number 4 (some .int)), (1560, Cond.methodLink "PalmHoursModel" 305 ⟨"PalmHoursModel", "is", "(III)Z"⟩), (1561, Cond.static ⟨"PalmHoursModel", "is", "(III)Z"⟩), (1562, Cond.code ⟨"PalmHoursModel", "is", "(III)Z"⟩ cX12_is 3 (some .boolean)), (1563, Cond.methodLink "PalmHoursModel" 380 ⟨"PalmHoursModel", "cornering", "()V"⟩), (1565, Cond.instanceMethod ⟨"PalmHoursModel", "cornering", "()V"⟩), (1566, Cond.code ⟨"PalmHoursModel", "cornering", "()V"⟩ cX12_cornering 1 none), (1567, Cond.methodLink "PalmHoursModel" 383 ⟨"PalmHoursModel", "roading", "()V"⟩), (1569, Cond.instanceMethod ⟨"PalmHoursModel", "roading", "()V"⟩), (1570, Cond.code ⟨"PalmHoursModel", "roading", "()V"⟩ cX12_roading 5 none), (1571, Cond.methodLink "PalmHoursModel" 366 ⟨"PalmHoursModel", "knownBut", "(II)I"⟩), (1573, Cond.instanceMethod ⟨"PalmHoursModel", "knownBut", "(II)I"⟩), (1574, Cond.code ⟨"PalmHoursModel", "knownBut", "(II)I"⟩ cX12_knownBut 4 (some .int)), (1575, Cond.methodLink "PalmHoursModel" 347 ⟨"PalmHoursModel", "has2", "(II)Z"⟩), (1576, Cond.static ⟨"PalmHoursModel", "has2", "(II)Z"⟩), (1577, Cond.code ⟨"PalmHoursModel", "has2", "(II)Z"⟩ cX12_has2 2 (some .boolean)), (1578, Cond.methodLink "PalmHoursModel" 386 ⟨"PalmHoursModel", "palming", "()V"⟩), (1580, Cond.instanceMethod ⟨"PalmHoursModel", "palming", "()V"⟩), (1581, Cond.code ⟨"PalmHoursModel", "palming", "()V"⟩ cX12_palming 4 none), (1582, Cond.methodLink "PalmHoursModel" 389 ⟨"PalmHoursModel", "doings", "()V"⟩), (1584, Cond.instanceMethod ⟨"PalmHoursModel", "doings", "()V"⟩), (1585, Cond.code ⟨"PalmHoursModel", "doings", "()V"⟩ cX12_doings 2 none), (1586, Cond.methodLink "PalmHoursModel" 391 ⟨"PalmHoursModel", "reading", "(I)V"⟩), (1588, Cond.instanceMethod ⟨"PalmHoursModel", "reading", "(I)V"⟩), (1589, Cond.code ⟨"PalmHoursModel", "reading", "(I)V"⟩ cX12_reading 3 none), (1590, Cond.methodLink "PalmHoursModel" 373 ⟨"PalmHoursModel", "reads", "(Z)V"⟩), (1592, Cond.instanceMethod ⟨"PalmHoursModel", "reads", "(Z)V"⟩), (1593, Cond.code ⟨"PalmHoursModel", "reads", "(Z)V"⟩ cX12_reads 3 none), (1594, Cond.methodLink "PalmHoursModel" 315 ⟨"PalmHoursModel", "pushes", "(I)V"⟩), (1596, Cond.instanceMethod ⟨"PalmHoursModel", "pushes", "(I)V"⟩), (1597, Cond.code ⟨"PalmHoursModel", "pushes", "(I)V"⟩ cX12_pushes 2 none), (1598, Cond.methodLink "PalmHoursModel" 334 ⟨"PalmHoursModel", "operand", "()Z"⟩), (1600, Cond.instanceMethod ⟨"PalmHoursModel", "operand", "()Z"⟩), (1601, Cond.code ⟨"PalmHoursModel", "operand", "()Z"⟩ cX12_operand 4 (some .boolean)), (1602, Cond.methodLink "PalmHoursModel" 318 ⟨"PalmHoursModel", "isTest", "(I)Z"⟩), (1603, Cond.static ⟨"PalmHoursModel", "isTest", "(I)Z"⟩), (1604, Cond.code ⟨"PalmHoursModel", "isTest", "(I)Z"⟩ cX12_isTest 1 (some .boolean)), (1605, Cond.methodLink "PalmHoursModel" 325 ⟨"PalmHoursModel", "holdsBack", "(I)V"⟩), (1607, Cond.instanceMethod ⟨"PalmHoursModel", "holdsBack", "(I)V"⟩), (1608, Cond.code ⟨"PalmHoursModel", "holdsBack", "(I)V"⟩ cX12_holdsBack 2 none), (1609, Cond.methodLink "PalmHoursModel" 241 ⟨"PalmHoursModel", "isSign", "(I)Z"⟩), (1611, Cond.instanceMethod ⟨"PalmHoursModel", "isSign", "(I)Z"⟩), (1612, Cond.code ⟨"PalmHoursModel", "isSign", "(I)Z"⟩ cX12_isSign 2 (some .boolean)), (1613, Cond.methodLink "PalmHoursModel" 328 ⟨"PalmHoursModel", "opens", "(I)V"⟩), (1615, Cond.instanceMethod ⟨"PalmHoursModel", "opens", "(I)V"⟩), (1616, Cond.code ⟨"PalmHoursModel", "opens", "(I)V"⟩ cX12_opens 2 none), (1617, Cond.methodLink "PalmHoursModel" 312 ⟨"PalmHoursModel", "add", "(II)V"⟩), (1619, Cond.instanceMethod ⟨"PalmHoursModel", "add", "(II)V"⟩), (1620, Cond.code ⟨"PalmHoursModel", "add", "(II)V"⟩ cX12_add 3 none), (1621, Cond.methodLink "PalmHoursModel" 337 ⟨"PalmHoursModel", "goesOn", "()Z"⟩), (1623, Cond.instanceMethod ⟨"PalmHoursModel", "goesOn", "()Z"⟩), (1624, Cond.code ⟨"PalmHoursModel", "goesOn", "()Z"⟩ cX12_goesOn 5 (some .boolean)), (1625, Cond.methodLink "PalmHoursModel" 331 ⟨"PalmHoursModel", "joins", "(I)V"⟩), (1627, Cond.instanceMethod ⟨"PalmHoursModel", "joins", "(I)V"⟩), (1628, Cond.code ⟨"PalmHoursModel", "joins", "(I)V"⟩ cX12_joins 2 none), (1629, Cond.methodLink "PalmHoursModel" 309 ⟨"PalmHoursModel", "rank", "(I)I"⟩), (1630, Cond.static ⟨"PalmHoursModel", "rank", "(I)I"⟩), (1631, Cond.code ⟨"PalmHoursModel", "rank", "(I)I"⟩ cX12_rank 1 (some .int)), (1632, Cond.methodLink "PalmHoursModel" 394 ⟨"PalmHoursModel", "passing", "()V"⟩), (1634, Cond.instanceMethod ⟨"PalmHoursModel", "passing", "()V"⟩), (1635, Cond.code ⟨"PalmHoursModel", "passing", "()V"⟩ cX12_passing 2 none), (1636, Cond.methodLink "PalmHoursModel" 403 ⟨"PalmHoursModel", "finishes", "(I)V"⟩), (1638, Cond.instanceMethod ⟨"PalmHoursModel", "finishes", "(I)V"⟩), (1639, Cond.code ⟨"PalmHoursModel", "finishes", "(I)V"⟩ cX12_finishes 3 none), (1640, Cond.methodLink "PalmHoursModel" 397 ⟨"PalmHoursModel", "must", "(I)V"⟩), (1642, Cond.instanceMethod ⟨"PalmHoursModel", "must", "(I)V"⟩), (1643, Cond.code ⟨"PalmHoursModel", "must", "(I)V"⟩ cX12_must 2 none), (1644, Cond.methodLink "PalmHoursModel" 406 ⟨"PalmHoursModel", "measures", "()V"⟩), (1646, Cond.instanceMethod ⟨"PalmHoursModel", "measures", "()V"⟩), (1647, Cond.code ⟨"PalmHoursModel", "measures", "()V"⟩ cX12_measures 5 none), (1648, Cond.constant "PalmHoursModel" 399 (100000000))]
theorem bkw9 : pkW lw_tbl 0 bkwl9 = true := by decide +kernel
theorem w1529 : Cond.constantLong "PalmHoursModel" 275 (1885434739) ∈ lw_g := pkW_i bkw9 0 rfl
theorem w1530 : Cond.constantLong "PalmHoursModel" 277 (1751477348) ∈ lw_g := pkW_i bkw9 1 rfl
theorem w1531 : Cond.constantLong "PalmHoursModel" 279 (120299592184933) ∈ lw_g := pkW_i bkw9 2 rfl
theorem w1532 : Cond.constantLong "PalmHoursModel" 281 (435627783289) ∈ lw_g := pkW_i bkw9 3 rfl
theorem w1533 : Cond.constantLong "PalmHoursModel" 283 (26982) ∈ lw_g := pkW_i bkw9 4 rfl
theorem w1534 : Cond.constantLong "PalmHoursModel" 285 (28530) ∈ lw_g := pkW_i bkw9 5 rfl
theorem w1535 : Cond.constantLong "PalmHoursModel" 287 (6385252) ∈ lw_g := pkW_i bkw9 6 rfl
theorem w1536 : Cond.constantLong "PalmHoursModel" 289 (7237492) ∈ lw_g := pkW_i bkw9 7 rfl
theorem w1537 : Cond.constantLong "PalmHoursModel" 291 (6384748) ∈ lw_g := pkW_i bkw9 8 rfl
theorem w1538 : Cond.constantLong "PalmHoursModel" 293 (7170414) ∈ lw_g := pkW_i bkw9 9 rfl
theorem w1539 : Cond.constantLong "PalmHoursModel" 295 (7168376) ∈ lw_g := pkW_i bkw9 10 rfl
theorem w1540 : Cond.methodLink "PalmHoursModel" 343 ⟨"PalmHoursModel", "named", "(IJ)I"⟩ ∈ lw_g := pkW_i bkw9 11 rfl
theorem w1542 : Cond.instanceMethod ⟨"PalmHoursModel", "named", "(IJ)I"⟩ ∈ lw_g := pkW_i bkw9 12 rfl
theorem w1543 : Cond.code ⟨"PalmHoursModel", "named", "(IJ)I"⟩ cX12_named 5 (some .int) ∈ lw_g := pkW_i bkw9 13 rfl
theorem w1544 : Cond.methodLink "PalmHoursModel" 297 ⟨"PalmHoursModel", "manyOf", "(II)I"⟩ ∈ lw_g := pkW_i bkw9 14 rfl
theorem w1546 : Cond.instanceMethod ⟨"PalmHoursModel", "manyOf", "(II)I"⟩ ∈ lw_g := pkW_i bkw9 15 rfl
theorem w1547 : Cond.code ⟨"PalmHoursModel", "manyOf", "(II)I"⟩ cX12_manyOf 3 (some .int) ∈ lw_g := pkW_i bkw9 16 rfl
theorem w1548 : Cond.methodLink "PalmHoursModel" 301 ⟨"PalmHoursModel", "nameOf", "(III)J"⟩ ∈ lw_g := pkW_i bkw9 17 rfl
theorem w1550 : Cond.instanceMethod ⟨"PalmHoursModel", "nameOf", "(III)J"⟩ ∈ lw_g := pkW_i bkw9 18 rfl
theorem w1551 : Cond.code ⟨"PalmHoursModel", "nameOf", "(III)J"⟩ cX12_nameOf 4 (some .long) ∈ lw_g := pkW_i bkw9 19 rfl
theorem w1552 : Cond.methodLink "PalmHoursModel" 359 ⟨"PalmHoursModel", "must", "(J)V"⟩ ∈ lw_g := pkW_i bkw9 20 rfl
theorem w1554 : Cond.instanceMethod ⟨"PalmHoursModel", "must", "(J)V"⟩ ∈ lw_g := pkW_i bkw9 21 rfl
theorem w1555 : Cond.code ⟨"PalmHoursModel", "must", "(J)V"⟩ cX12_must_ 3 none ∈ lw_g := pkW_i bkw9 22 rfl
theorem w1556 : Cond.methodLink "PalmHoursModel" 363 ⟨"PalmHoursModel", "number", "(II)I"⟩ ∈ lw_g := pkW_i bkw9 23 rfl
theorem w1558 : Cond.instanceMethod ⟨"PalmHoursModel", "number", "(II)I"⟩ ∈ lw_g := pkW_i bkw9 24 rfl
theorem w1559 : Cond.code ⟨"PalmHoursModel", "number", "(II)I"⟩ cX12_number 4 (some .int) ∈ lw_g := pkW_i bkw9 25 rfl
theorem w1560 : Cond.methodLink "PalmHoursModel" 305 ⟨"PalmHoursModel", "is", "(III)Z"⟩ ∈ lw_g := pkW_i bkw9 26 rfl
theorem w1561 : Cond.static ⟨"PalmHoursModel", "is", "(III)Z"⟩ ∈ lw_g := pkW_i bkw9 27 rfl
theorem w1562 : Cond.code ⟨"PalmHoursModel", "is", "(III)Z"⟩ cX12_is 3 (some .boolean) ∈ lw_g := pkW_i bkw9 28 rfl
theorem w1563 : Cond.methodLink "PalmHoursModel" 380 ⟨"PalmHoursModel", "cornering", "()V"⟩ ∈ lw_g := pkW_i bkw9 29 rfl
theorem w1565 : Cond.instanceMethod ⟨"PalmHoursModel", "cornering", "()V"⟩ ∈ lw_g := pkW_i bkw9 30 rfl
theorem w1566 : Cond.code ⟨"PalmHoursModel", "cornering", "()V"⟩ cX12_cornering 1 none ∈ lw_g := pkW_i bkw9 31 rfl
theorem w1567 : Cond.methodLink "PalmHoursModel" 383 ⟨"PalmHoursModel", "roading", "()V"⟩ ∈ lw_g := pkW_i bkw9 32 rfl
theorem w1569 : Cond.instanceMethod ⟨"PalmHoursModel", "roading", "()V"⟩ ∈ lw_g := pkW_i bkw9 33 rfl
theorem w1570 : Cond.code ⟨"PalmHoursModel", "roading", "()V"⟩ cX12_roading 5 none ∈ lw_g := pkW_i bkw9 34 rfl
theorem w1571 : Cond.methodLink "PalmHoursModel" 366 ⟨"PalmHoursModel", "knownBut", "(II)I"⟩ ∈ lw_g := pkW_i bkw9 35 rfl
theorem w1573 : Cond.instanceMethod ⟨"PalmHoursModel", "knownBut", "(II)I"⟩ ∈ lw_g := pkW_i bkw9 36 rfl
theorem w1574 : Cond.code ⟨"PalmHoursModel", "knownBut", "(II)I"⟩ cX12_knownBut 4 (some .int) ∈ lw_g := pkW_i bkw9 37 rfl
theorem w1575 : Cond.methodLink "PalmHoursModel" 347 ⟨"PalmHoursModel", "has2", "(II)Z"⟩ ∈ lw_g := pkW_i bkw9 38 rfl
theorem w1576 : Cond.static ⟨"PalmHoursModel", "has2", "(II)Z"⟩ ∈ lw_g := pkW_i bkw9 39 rfl
theorem w1577 : Cond.code ⟨"PalmHoursModel", "has2", "(II)Z"⟩ cX12_has2 2 (some .boolean) ∈ lw_g := pkW_i bkw9 40 rfl
theorem w1578 : Cond.methodLink "PalmHoursModel" 386 ⟨"PalmHoursModel", "palming", "()V"⟩ ∈ lw_g := pkW_i bkw9 41 rfl
theorem w1580 : Cond.instanceMethod ⟨"PalmHoursModel", "palming", "()V"⟩ ∈ lw_g := pkW_i bkw9 42 rfl
theorem w1581 : Cond.code ⟨"PalmHoursModel", "palming", "()V"⟩ cX12_palming 4 none ∈ lw_g := pkW_i bkw9 43 rfl
theorem w1582 : Cond.methodLink "PalmHoursModel" 389 ⟨"PalmHoursModel", "doings", "()V"⟩ ∈ lw_g := pkW_i bkw9 44 rfl
theorem w1584 : Cond.instanceMethod ⟨"PalmHoursModel", "doings", "()V"⟩ ∈ lw_g := pkW_i bkw9 45 rfl
theorem w1585 : Cond.code ⟨"PalmHoursModel", "doings", "()V"⟩ cX12_doings 2 none ∈ lw_g := pkW_i bkw9 46 rfl
theorem w1586 : Cond.methodLink "PalmHoursModel" 391 ⟨"PalmHoursModel", "reading", "(I)V"⟩ ∈ lw_g := pkW_i bkw9 47 rfl
theorem w1588 : Cond.instanceMethod ⟨"PalmHoursModel", "reading", "(I)V"⟩ ∈ lw_g := pkW_i bkw9 48 rfl
theorem w1589 : Cond.code ⟨"PalmHoursModel", "reading", "(I)V"⟩ cX12_reading 3 none ∈ lw_g := pkW_i bkw9 49 rfl
theorem w1590 : Cond.methodLink "PalmHoursModel" 373 ⟨"PalmHoursModel", "reads", "(Z)V"⟩ ∈ lw_g := pkW_i bkw9 50 rfl
theorem w1592 : Cond.instanceMethod ⟨"PalmHoursModel", "reads", "(Z)V"⟩ ∈ lw_g := pkW_i bkw9 51 rfl
theorem w1593 : Cond.code ⟨"PalmHoursModel", "reads", "(Z)V"⟩ cX12_reads 3 none ∈ lw_g := pkW_i bkw9 52 rfl
theorem w1594 : Cond.methodLink "PalmHoursModel" 315 ⟨"PalmHoursModel", "pushes", "(I)V"⟩ ∈ lw_g := pkW_i bkw9 53 rfl
theorem w1596 : Cond.instanceMethod ⟨"PalmHoursModel", "pushes", "(I)V"⟩ ∈ lw_g := pkW_i bkw9 54 rfl
theorem w1597 : Cond.code ⟨"PalmHoursModel", "pushes", "(I)V"⟩ cX12_pushes 2 none ∈ lw_g := pkW_i bkw9 55 rfl
theorem w1598 : Cond.methodLink "PalmHoursModel" 334 ⟨"PalmHoursModel", "operand", "()Z"⟩ ∈ lw_g := pkW_i bkw9 56 rfl
theorem w1600 : Cond.instanceMethod ⟨"PalmHoursModel", "operand", "()Z"⟩ ∈ lw_g := pkW_i bkw9 57 rfl
theorem w1601 : Cond.code ⟨"PalmHoursModel", "operand", "()Z"⟩ cX12_operand 4 (some .boolean) ∈ lw_g := pkW_i bkw9 58 rfl
theorem w1602 : Cond.methodLink "PalmHoursModel" 318 ⟨"PalmHoursModel", "isTest", "(I)Z"⟩ ∈ lw_g := pkW_i bkw9 59 rfl
theorem w1603 : Cond.static ⟨"PalmHoursModel", "isTest", "(I)Z"⟩ ∈ lw_g := pkW_i bkw9 60 rfl
theorem w1604 : Cond.code ⟨"PalmHoursModel", "isTest", "(I)Z"⟩ cX12_isTest 1 (some .boolean) ∈ lw_g := pkW_i bkw9 61 rfl
theorem w1605 : Cond.methodLink "PalmHoursModel" 325 ⟨"PalmHoursModel", "holdsBack", "(I)V"⟩ ∈ lw_g := pkW_i bkw9 62 rfl
theorem w1607 : Cond.instanceMethod ⟨"PalmHoursModel", "holdsBack", "(I)V"⟩ ∈ lw_g := pkW_i bkw9 63 rfl
theorem w1608 : Cond.code ⟨"PalmHoursModel", "holdsBack", "(I)V"⟩ cX12_holdsBack 2 none ∈ lw_g := pkW_i bkw9 64 rfl
theorem w1609 : Cond.methodLink "PalmHoursModel" 241 ⟨"PalmHoursModel", "isSign", "(I)Z"⟩ ∈ lw_g := pkW_i bkw9 65 rfl
theorem w1611 : Cond.instanceMethod ⟨"PalmHoursModel", "isSign", "(I)Z"⟩ ∈ lw_g := pkW_i bkw9 66 rfl
theorem w1612 : Cond.code ⟨"PalmHoursModel", "isSign", "(I)Z"⟩ cX12_isSign 2 (some .boolean) ∈ lw_g := pkW_i bkw9 67 rfl
theorem w1613 : Cond.methodLink "PalmHoursModel" 328 ⟨"PalmHoursModel", "opens", "(I)V"⟩ ∈ lw_g := pkW_i bkw9 68 rfl
theorem w1615 : Cond.instanceMethod ⟨"PalmHoursModel", "opens", "(I)V"⟩ ∈ lw_g := pkW_i bkw9 69 rfl
theorem w1616 : Cond.code ⟨"PalmHoursModel", "opens", "(I)V"⟩ cX12_opens 2 none ∈ lw_g := pkW_i bkw9 70 rfl
theorem w1617 : Cond.methodLink "PalmHoursModel" 312 ⟨"PalmHoursModel", "add", "(II)V"⟩ ∈ lw_g := pkW_i bkw9 71 rfl
theorem w1619 : Cond.instanceMethod ⟨"PalmHoursModel", "add", "(II)V"⟩ ∈ lw_g := pkW_i bkw9 72 rfl
theorem w1620 : Cond.code ⟨"PalmHoursModel", "add", "(II)V"⟩ cX12_add 3 none ∈ lw_g := pkW_i bkw9 73 rfl
theorem w1621 : Cond.methodLink "PalmHoursModel" 337 ⟨"PalmHoursModel", "goesOn", "()Z"⟩ ∈ lw_g := pkW_i bkw9 74 rfl
theorem w1623 : Cond.instanceMethod ⟨"PalmHoursModel", "goesOn", "()Z"⟩ ∈ lw_g := pkW_i bkw9 75 rfl
theorem w1624 : Cond.code ⟨"PalmHoursModel", "goesOn", "()Z"⟩ cX12_goesOn 5 (some .boolean) ∈ lw_g := pkW_i bkw9 76 rfl
theorem w1625 : Cond.methodLink "PalmHoursModel" 331 ⟨"PalmHoursModel", "joins", "(I)V"⟩ ∈ lw_g := pkW_i bkw9 77 rfl
theorem w1627 : Cond.instanceMethod ⟨"PalmHoursModel", "joins", "(I)V"⟩ ∈ lw_g := pkW_i bkw9 78 rfl
theorem w1628 : Cond.code ⟨"PalmHoursModel", "joins", "(I)V"⟩ cX12_joins 2 none ∈ lw_g := pkW_i bkw9 79 rfl
theorem w1629 : Cond.methodLink "PalmHoursModel" 309 ⟨"PalmHoursModel", "rank", "(I)I"⟩ ∈ lw_g := pkW_i bkw9 80 rfl
theorem w1630 : Cond.static ⟨"PalmHoursModel", "rank", "(I)I"⟩ ∈ lw_g := pkW_i bkw9 81 rfl
theorem w1631 : Cond.code ⟨"PalmHoursModel", "rank", "(I)I"⟩ cX12_rank 1 (some .int) ∈ lw_g := pkW_i bkw9 82 rfl
theorem w1632 : Cond.methodLink "PalmHoursModel" 394 ⟨"PalmHoursModel", "passing", "()V"⟩ ∈ lw_g := pkW_i bkw9 83 rfl
theorem w1634 : Cond.instanceMethod ⟨"PalmHoursModel", "passing", "()V"⟩ ∈ lw_g := pkW_i bkw9 84 rfl
theorem w1635 : Cond.code ⟨"PalmHoursModel", "passing", "()V"⟩ cX12_passing 2 none ∈ lw_g := pkW_i bkw9 85 rfl
theorem w1636 : Cond.methodLink "PalmHoursModel" 403 ⟨"PalmHoursModel", "finishes", "(I)V"⟩ ∈ lw_g := pkW_i bkw9 86 rfl
theorem w1638 : Cond.instanceMethod ⟨"PalmHoursModel", "finishes", "(I)V"⟩ ∈ lw_g := pkW_i bkw9 87 rfl
theorem w1639 : Cond.code ⟨"PalmHoursModel", "finishes", "(I)V"⟩ cX12_finishes 3 none ∈ lw_g := pkW_i bkw9 88 rfl
theorem w1640 : Cond.methodLink "PalmHoursModel" 397 ⟨"PalmHoursModel", "must", "(I)V"⟩ ∈ lw_g := pkW_i bkw9 89 rfl
theorem w1642 : Cond.instanceMethod ⟨"PalmHoursModel", "must", "(I)V"⟩ ∈ lw_g := pkW_i bkw9 90 rfl
theorem w1643 : Cond.code ⟨"PalmHoursModel", "must", "(I)V"⟩ cX12_must 2 none ∈ lw_g := pkW_i bkw9 91 rfl
theorem w1644 : Cond.methodLink "PalmHoursModel" 406 ⟨"PalmHoursModel", "measures", "()V"⟩ ∈ lw_g := pkW_i bkw9 92 rfl
theorem w1646 : Cond.instanceMethod ⟨"PalmHoursModel", "measures", "()V"⟩ ∈ lw_g := pkW_i bkw9 93 rfl
theorem w1647 : Cond.code ⟨"PalmHoursModel", "measures", "()V"⟩ cX12_measures 5 none ∈ lw_g := pkW_i bkw9 94 rfl
theorem w1648 : Cond.constant "PalmHoursModel" 399 (100000000) ∈ lw_g := pkW_i bkw9 95 rfl
def bkwl10 : List (Nat × Cond) := [(1649, Cond.methodLink "PalmHoursModel" 409 ⟨"PalmHoursModel", "begin", "()V"⟩), (1651, Cond.instanceMethod ⟨"PalmHoursModel", "begin", "()V"⟩), (1652, Cond.code ⟨"PalmHoursModel", "begin", "()V"⟩ cX12_begin 2 none), (1653, Cond.methodLink "PalmHoursModel" 412 ⟨"PalmHoursModel", "finishesDoings", "(I)I"⟩), (1655, Cond.instanceMethod ⟨"PalmHoursModel", "finishesDoings", "(I)I"⟩), (1656, Cond.code ⟨"PalmHoursModel", "finishesDoings", "(I)I"⟩ cX12_finishesDoings 4 (some .int)), (1657, Cond.methodLink "PalmHoursModel" 449 ⟨"PalmHoursModel", "hour", "(II)I"⟩), (1659, Cond.instanceMethod ⟨"PalmHoursModel", "hour", "(II)I"⟩), (1660, Cond.code ⟨"PalmHoursModel", "hour", "(II)I"⟩ cX12_hour 5 (some .int)), (1661, Cond.methodLink "PalmHoursModel" 437 ⟨"PalmHoursModel", "lays", "(II)V"⟩), (1663, Cond.instanceMethod ⟨"PalmHoursModel", "lays", "(II)V"⟩), (1664, Cond.code ⟨"PalmHoursModel", "lays", "(II)V"⟩ cX12_lays 4 none), (1665, Cond.methodLink "PalmHoursModel" 440 ⟨"PalmHoursModel", "isTold", "(I)Z"⟩), (1667, Cond.instanceMethod ⟨"PalmHoursModel", "isTold", "(I)Z"⟩), (1668, Cond.code ⟨"PalmHoursModel", "isTold", "(I)Z"⟩ cX12_isTold 2 (some .boolean)), (1669, Cond.methodLink "PalmHoursModel" 443 ⟨"PalmHoursModel", "reckons", "(I)J"⟩), (1671, Cond.instanceMethod ⟨"PalmHoursModel", "reckons", "(I)J"⟩), (1672, Cond.code ⟨"PalmHoursModel", "reckons", "(I)J"⟩ cX12_reckons 5 (some .long)), (1673, Cond.methodLink "PalmHoursModel" 433 ⟨"PalmHoursModel", "two", "(IJJ)J"⟩), (1674, Cond.static ⟨"PalmHoursModel", "two", "(IJJ)J"⟩), (1675, Cond.code ⟨"PalmHoursModel", "two", "(IJJ)J"⟩ cX12_two 5 (some .long)), (1676, Cond.methodLink "PalmHoursModel" 425 ⟨"PalmHoursModel", "within", "(J)J"⟩), (1677, Cond.static ⟨"PalmHoursModel", "within", "(J)J"⟩), (1678, Cond.code ⟨"PalmHoursModel", "within", "(J)J"⟩ cX12_within 2 (some .long)), (1679, Cond.constantLong "PalmHoursModel" 421 (1000000)), (1680, Cond.constantLong "PalmHoursModel" 423 (-1000000)), (1681, Cond.methodLink "PalmHoursModel" 429 ⟨"PalmHoursModel", "floor", "(JJ)J"⟩), (1682, Cond.static ⟨"PalmHoursModel", "floor", "(JJ)J"⟩), (1683, Cond.code ⟨"PalmHoursModel", "floor", "(JJ)J"⟩ cX12_floor 6 (some .long)), (1684, Cond.constantLong "PalmHoursModel" 447 (23)), (1685, Cond.methodLink "PalmHoursModel" 452 ⟨"PalmHoursModel", "writesDown", "(II)V"⟩), (1687, Cond.instanceMethod ⟨"PalmHoursModel", "writesDown", "(II)V"⟩), (1688, Cond.code ⟨"PalmHoursModel", "writesDown", "(II)V"⟩ cX12_writesDown 4 none), (1701, Cond.methodLink "PalmHoursModel" 415 ⟨"PalmHoursModel", "slot", "(I)I"⟩), (1703, Cond.instanceMethod ⟨"PalmHoursModel", "slot", "(I)I"⟩), (1704, Cond.code ⟨"PalmHoursModel", "slot", "(I)I"⟩ cX12_slot 2 (some .int)), (1705, Cond.methodLink "PalmHoursModel" 418 ⟨"PalmHoursModel", "copies", "(II)V"⟩), (1707, Cond.instanceMethod ⟨"PalmHoursModel", "copies", "(II)V"⟩), (1708, Cond.code ⟨"PalmHoursModel", "copies", "(II)V"⟩ cX12_copies 4 none), (1713, Cond.methodLink "PalmHoursModel" 464 ⟨"PalmHoursModel", "bits", "(I)I"⟩), (1714, Cond.static ⟨"PalmHoursModel", "bits", "(I)I"⟩), (1715, Cond.code ⟨"PalmHoursModel", "bits", "(I)I"⟩ cX12_bits 3 (some .int)), (1720, Cond.constantLong "PalmHoursModel" 467 (255)), (1725, Cond.methodLink "PalmHoursModel" 469 ⟨"PalmHoursModel", "isThing", "(I)Z"⟩), (1727, Cond.instanceMethod ⟨"PalmHoursModel", "isThing", "(I)Z"⟩), (1728, Cond.code ⟨"PalmHoursModel", "isThing", "(I)Z"⟩ cX12_isThing 2 (some .boolean)), (1733, Cond.methodLink "PalmHoursModel" 472 ⟨"PalmHoursModel", "isCorner", "(I)Z"⟩), (1735, Cond.instanceMethod ⟨"PalmHoursModel", "isCorner", "(I)Z"⟩), (1736, Cond.code ⟨"PalmHoursModel", "isCorner", "(I)Z"⟩ cX12_isCorner 2 (some .boolean)), (1741, Cond.methodLink "PalmHoursModel" 475 ⟨"PalmHoursModel", "isDoing", "(I)Z"⟩), (1743, Cond.instanceMethod ⟨"PalmHoursModel", "isDoing", "(I)Z"⟩), (1744, Cond.code ⟨"PalmHoursModel", "isDoing", "(I)Z"⟩ cX12_isDoing 2 (some .boolean)), (1746, Cond.instanceMethod ⟨"PalmHoursModel", "later", "(II)I"⟩), (1747, Cond.selects "PalmHoursModel" ⟨"PalmHoursModel", "later", "(II)I"⟩ ⟨"PalmHoursModel", "later", "(II)I"⟩), (1748, Cond.code ⟨"PalmHoursModel", "later", "(II)I"⟩ cX12_later 4 (some .int)), (1749, Cond.methodLink "PalmHoursModel" 478 ⟨"PalmHoursModel", "isAhead", "(III)Z"⟩), (1751, Cond.instanceMethod ⟨"PalmHoursModel", "isAhead", "(III)Z"⟩), (1752, Cond.code ⟨"PalmHoursModel", "isAhead", "(III)Z"⟩ cX12_isAhead 4 (some .boolean)), (1753, Cond.methodLink "PalmHoursModel" 481 ⟨"PalmHoursModel", "passes", "(I)I"⟩), (1755, Cond.instanceMethod ⟨"PalmHoursModel", "passes", "(I)I"⟩), (1756, Cond.code ⟨"PalmHoursModel", "passes", "(I)I"⟩ cX12_passes 2 (some .int)), (1757, Cond.methodLink "PalmHoursModel" 461 ⟨"PalmHoursModel", "ticks", "(I)V"⟩), (1759, Cond.instanceMethod ⟨"PalmHoursModel", "ticks", "(I)V"⟩), (1760, Cond.code ⟨"PalmHoursModel", "ticks", "(I)V"⟩ cX12_ticks 3 none), (1761, Cond.methodLink "PalmHoursModel" 455 ⟨"PalmHoursModel", "isGone", "(II)Z"⟩), (1763, Cond.instanceMethod ⟨"PalmHoursModel", "isGone", "(II)Z"⟩), (1764, Cond.code ⟨"PalmHoursModel", "isGone", "(II)Z"⟩ cX12_isGone 3 (some .boolean)), (1765, Cond.methodLink "PalmHoursModel" 457 ⟨"PalmHoursModel", "puts", "(III)V"⟩), (1767, Cond.instanceMethod ⟨"PalmHoursModel", "puts", "(III)V"⟩), (1768, Cond.code ⟨"PalmHoursModel", "puts", "(III)V"⟩ cX12_puts 4 none), (1781, Cond.methodLink "PalmHoursModel" 484 ⟨"PalmHoursModel", "isDoneBy", "(II)Z"⟩), (1783, Cond.instanceMethod ⟨"PalmHoursModel", "isDoneBy", "(II)Z"⟩), (1784, Cond.code ⟨"PalmHoursModel", "isDoneBy", "(II)Z"⟩ cX12_isDoneBy 4 (some .boolean)), (1793, Cond.constantLong "PalmHoursModel" 487 (-1)), (1795, Cond.instanceMethod ⟨"PalmHoursModel", "way", "(II)I"⟩), (1796, Cond.selects "PalmHoursModel" ⟨"PalmHoursModel", "way", "(II)I"⟩ ⟨"PalmHoursModel", "way", "(II)I"⟩), (1797, Cond.code ⟨"PalmHoursModel", "way", "(II)I"⟩ cX12_way 3 (some .int)), (1802, Cond.methodLink "PalmHoursModel" 489 ⟨"PalmHoursModel", "way", "(II)I"⟩), (1803, Cond.methodLink "PalmHoursModel" 492 ⟨"PalmHoursModel", "later", "(II)I"⟩), (1816, Cond.methodLink "PalmHoursModel" 495 ⟨"PalmHoursModel", "heldBits", "(I)I"⟩), (1818, Cond.instanceMethod ⟨"PalmHoursModel", "heldBits", "(I)I"⟩), (1819, Cond.code ⟨"PalmHoursModel", "heldBits", "(I)I"⟩ cX12_heldBits 7 (some .int)), (1828, Cond.methodLink "PalmHoursModel" 498 ⟨"PalmHoursModel", "keeps", "()V"⟩), (1830, Cond.instanceMethod ⟨"PalmHoursModel", "keeps", "()V"⟩), (1831, Cond.code ⟨"PalmHoursModel", "keeps", "()V"⟩ cX12_keeps 1 none), (1836, Cond.methodLink "PalmHoursModel" 509 ⟨"PalmHoursModel", "draw", "(I)I"⟩), (1838, Cond.instanceMethod ⟨"PalmHoursModel", "draw", "(I)I"⟩), (1839, Cond.code ⟨"PalmHoursModel", "draw", "(I)I"⟩ cX12_draw 2 (some .int)), (1840, Cond.constantLong "PalmHoursModel" 501 (1103515245)), (1841, Cond.constantLong "PalmHoursModel" 503 (12345)), (1842, Cond.constantLong "PalmHoursModel" 505 (2147483648)), (1843, Cond.constantLong "PalmHoursModel" 507 (64)), (1864, Cond.methodLink "PalmHoursModel" 512 ⟨"PalmHoursModel", "writes", "(I)V"⟩), (1866, Cond.instanceMethod ⟨"PalmHoursModel", "writes", "(I)V"⟩), (1867, Cond.code ⟨"PalmHoursModel", "writes", "(I)V"⟩ cX12_writes 2 none), (1876, Cond.methodLink "PalmHoursModel" 518 ⟨"PalmHoursModel", "comesOn", "(I)Z"⟩)]
theorem bkw10 : pkW lw_tbl 0 bkwl10 = true := by decide +kernel
theorem w1649 : Cond.methodLink "PalmHoursModel" 409 ⟨"PalmHoursModel", "begin", "()V"⟩ ∈ lw_g := pkW_i bkw10 0 rfl
theorem w1651 : Cond.instanceMethod ⟨"PalmHoursModel", "begin", "()V"⟩ ∈ lw_g := pkW_i bkw10 1 rfl
theorem w1652 : Cond.code ⟨"PalmHoursModel", "begin", "()V"⟩ cX12_begin 2 none ∈ lw_g := pkW_i bkw10 2 rfl
theorem w1653 : Cond.methodLink "PalmHoursModel" 412 ⟨"PalmHoursModel", "finishesDoings", "(I)I"⟩ ∈ lw_g := pkW_i bkw10 3 rfl
theorem w1655 : Cond.instanceMethod ⟨"PalmHoursModel", "finishesDoings", "(I)I"⟩ ∈ lw_g := pkW_i bkw10 4 rfl
theorem w1656 : Cond.code ⟨"PalmHoursModel", "finishesDoings", "(I)I"⟩ cX12_finishesDoings 4 (some .int) ∈ lw_g := pkW_i bkw10 5 rfl
theorem w1657 : Cond.methodLink "PalmHoursModel" 449 ⟨"PalmHoursModel", "hour", "(II)I"⟩ ∈ lw_g := pkW_i bkw10 6 rfl
theorem w1659 : Cond.instanceMethod ⟨"PalmHoursModel", "hour", "(II)I"⟩ ∈ lw_g := pkW_i bkw10 7 rfl
theorem w1660 : Cond.code ⟨"PalmHoursModel", "hour", "(II)I"⟩ cX12_hour 5 (some .int) ∈ lw_g := pkW_i bkw10 8 rfl
theorem w1661 : Cond.methodLink "PalmHoursModel" 437 ⟨"PalmHoursModel", "lays", "(II)V"⟩ ∈ lw_g := pkW_i bkw10 9 rfl
theorem w1663 : Cond.instanceMethod ⟨"PalmHoursModel", "lays", "(II)V"⟩ ∈ lw_g := pkW_i bkw10 10 rfl
theorem w1664 : Cond.code ⟨"PalmHoursModel", "lays", "(II)V"⟩ cX12_lays 4 none ∈ lw_g := pkW_i bkw10 11 rfl
theorem w1665 : Cond.methodLink "PalmHoursModel" 440 ⟨"PalmHoursModel", "isTold", "(I)Z"⟩ ∈ lw_g := pkW_i bkw10 12 rfl
theorem w1667 : Cond.instanceMethod ⟨"PalmHoursModel", "isTold", "(I)Z"⟩ ∈ lw_g := pkW_i bkw10 13 rfl
theorem w1668 : Cond.code ⟨"PalmHoursModel", "isTold", "(I)Z"⟩ cX12_isTold 2 (some .boolean) ∈ lw_g := pkW_i bkw10 14 rfl
theorem w1669 : Cond.methodLink "PalmHoursModel" 443 ⟨"PalmHoursModel", "reckons", "(I)J"⟩ ∈ lw_g := pkW_i bkw10 15 rfl
theorem w1671 : Cond.instanceMethod ⟨"PalmHoursModel", "reckons", "(I)J"⟩ ∈ lw_g := pkW_i bkw10 16 rfl
theorem w1672 : Cond.code ⟨"PalmHoursModel", "reckons", "(I)J"⟩ cX12_reckons 5 (some .long) ∈ lw_g := pkW_i bkw10 17 rfl
theorem w1673 : Cond.methodLink "PalmHoursModel" 433 ⟨"PalmHoursModel", "two", "(IJJ)J"⟩ ∈ lw_g := pkW_i bkw10 18 rfl
theorem w1674 : Cond.static ⟨"PalmHoursModel", "two", "(IJJ)J"⟩ ∈ lw_g := pkW_i bkw10 19 rfl
theorem w1675 : Cond.code ⟨"PalmHoursModel", "two", "(IJJ)J"⟩ cX12_two 5 (some .long) ∈ lw_g := pkW_i bkw10 20 rfl
theorem w1676 : Cond.methodLink "PalmHoursModel" 425 ⟨"PalmHoursModel", "within", "(J)J"⟩ ∈ lw_g := pkW_i bkw10 21 rfl
theorem w1677 : Cond.static ⟨"PalmHoursModel", "within", "(J)J"⟩ ∈ lw_g := pkW_i bkw10 22 rfl
theorem w1678 : Cond.code ⟨"PalmHoursModel", "within", "(J)J"⟩ cX12_within 2 (some .long) ∈ lw_g := pkW_i bkw10 23 rfl
theorem w1679 : Cond.constantLong "PalmHoursModel" 421 (1000000) ∈ lw_g := pkW_i bkw10 24 rfl
theorem w1680 : Cond.constantLong "PalmHoursModel" 423 (-1000000) ∈ lw_g := pkW_i bkw10 25 rfl
theorem w1681 : Cond.methodLink "PalmHoursModel" 429 ⟨"PalmHoursModel", "floor", "(JJ)J"⟩ ∈ lw_g := pkW_i bkw10 26 rfl
theorem w1682 : Cond.static ⟨"PalmHoursModel", "floor", "(JJ)J"⟩ ∈ lw_g := pkW_i bkw10 27 rfl
theorem w1683 : Cond.code ⟨"PalmHoursModel", "floor", "(JJ)J"⟩ cX12_floor 6 (some .long) ∈ lw_g := pkW_i bkw10 28 rfl
theorem w1684 : Cond.constantLong "PalmHoursModel" 447 (23) ∈ lw_g := pkW_i bkw10 29 rfl
theorem w1685 : Cond.methodLink "PalmHoursModel" 452 ⟨"PalmHoursModel", "writesDown", "(II)V"⟩ ∈ lw_g := pkW_i bkw10 30 rfl
theorem w1687 : Cond.instanceMethod ⟨"PalmHoursModel", "writesDown", "(II)V"⟩ ∈ lw_g := pkW_i bkw10 31 rfl
theorem w1688 : Cond.code ⟨"PalmHoursModel", "writesDown", "(II)V"⟩ cX12_writesDown 4 none ∈ lw_g := pkW_i bkw10 32 rfl
theorem w1701 : Cond.methodLink "PalmHoursModel" 415 ⟨"PalmHoursModel", "slot", "(I)I"⟩ ∈ lw_g := pkW_i bkw10 33 rfl
theorem w1703 : Cond.instanceMethod ⟨"PalmHoursModel", "slot", "(I)I"⟩ ∈ lw_g := pkW_i bkw10 34 rfl
theorem w1704 : Cond.code ⟨"PalmHoursModel", "slot", "(I)I"⟩ cX12_slot 2 (some .int) ∈ lw_g := pkW_i bkw10 35 rfl
theorem w1705 : Cond.methodLink "PalmHoursModel" 418 ⟨"PalmHoursModel", "copies", "(II)V"⟩ ∈ lw_g := pkW_i bkw10 36 rfl
theorem w1707 : Cond.instanceMethod ⟨"PalmHoursModel", "copies", "(II)V"⟩ ∈ lw_g := pkW_i bkw10 37 rfl
theorem w1708 : Cond.code ⟨"PalmHoursModel", "copies", "(II)V"⟩ cX12_copies 4 none ∈ lw_g := pkW_i bkw10 38 rfl
theorem w1713 : Cond.methodLink "PalmHoursModel" 464 ⟨"PalmHoursModel", "bits", "(I)I"⟩ ∈ lw_g := pkW_i bkw10 39 rfl
theorem w1714 : Cond.static ⟨"PalmHoursModel", "bits", "(I)I"⟩ ∈ lw_g := pkW_i bkw10 40 rfl
theorem w1715 : Cond.code ⟨"PalmHoursModel", "bits", "(I)I"⟩ cX12_bits 3 (some .int) ∈ lw_g := pkW_i bkw10 41 rfl
theorem w1720 : Cond.constantLong "PalmHoursModel" 467 (255) ∈ lw_g := pkW_i bkw10 42 rfl
theorem w1725 : Cond.methodLink "PalmHoursModel" 469 ⟨"PalmHoursModel", "isThing", "(I)Z"⟩ ∈ lw_g := pkW_i bkw10 43 rfl
theorem w1727 : Cond.instanceMethod ⟨"PalmHoursModel", "isThing", "(I)Z"⟩ ∈ lw_g := pkW_i bkw10 44 rfl
theorem w1728 : Cond.code ⟨"PalmHoursModel", "isThing", "(I)Z"⟩ cX12_isThing 2 (some .boolean) ∈ lw_g := pkW_i bkw10 45 rfl
theorem w1733 : Cond.methodLink "PalmHoursModel" 472 ⟨"PalmHoursModel", "isCorner", "(I)Z"⟩ ∈ lw_g := pkW_i bkw10 46 rfl
theorem w1735 : Cond.instanceMethod ⟨"PalmHoursModel", "isCorner", "(I)Z"⟩ ∈ lw_g := pkW_i bkw10 47 rfl
theorem w1736 : Cond.code ⟨"PalmHoursModel", "isCorner", "(I)Z"⟩ cX12_isCorner 2 (some .boolean) ∈ lw_g := pkW_i bkw10 48 rfl
theorem w1741 : Cond.methodLink "PalmHoursModel" 475 ⟨"PalmHoursModel", "isDoing", "(I)Z"⟩ ∈ lw_g := pkW_i bkw10 49 rfl
theorem w1743 : Cond.instanceMethod ⟨"PalmHoursModel", "isDoing", "(I)Z"⟩ ∈ lw_g := pkW_i bkw10 50 rfl
theorem w1744 : Cond.code ⟨"PalmHoursModel", "isDoing", "(I)Z"⟩ cX12_isDoing 2 (some .boolean) ∈ lw_g := pkW_i bkw10 51 rfl
theorem w1746 : Cond.instanceMethod ⟨"PalmHoursModel", "later", "(II)I"⟩ ∈ lw_g := pkW_i bkw10 52 rfl
theorem w1747 : Cond.selects "PalmHoursModel" ⟨"PalmHoursModel", "later", "(II)I"⟩ ⟨"PalmHoursModel", "later", "(II)I"⟩ ∈ lw_g := pkW_i bkw10 53 rfl
theorem w1748 : Cond.code ⟨"PalmHoursModel", "later", "(II)I"⟩ cX12_later 4 (some .int) ∈ lw_g := pkW_i bkw10 54 rfl
theorem w1749 : Cond.methodLink "PalmHoursModel" 478 ⟨"PalmHoursModel", "isAhead", "(III)Z"⟩ ∈ lw_g := pkW_i bkw10 55 rfl
theorem w1751 : Cond.instanceMethod ⟨"PalmHoursModel", "isAhead", "(III)Z"⟩ ∈ lw_g := pkW_i bkw10 56 rfl
theorem w1752 : Cond.code ⟨"PalmHoursModel", "isAhead", "(III)Z"⟩ cX12_isAhead 4 (some .boolean) ∈ lw_g := pkW_i bkw10 57 rfl
theorem w1753 : Cond.methodLink "PalmHoursModel" 481 ⟨"PalmHoursModel", "passes", "(I)I"⟩ ∈ lw_g := pkW_i bkw10 58 rfl
theorem w1755 : Cond.instanceMethod ⟨"PalmHoursModel", "passes", "(I)I"⟩ ∈ lw_g := pkW_i bkw10 59 rfl
theorem w1756 : Cond.code ⟨"PalmHoursModel", "passes", "(I)I"⟩ cX12_passes 2 (some .int) ∈ lw_g := pkW_i bkw10 60 rfl
theorem w1757 : Cond.methodLink "PalmHoursModel" 461 ⟨"PalmHoursModel", "ticks", "(I)V"⟩ ∈ lw_g := pkW_i bkw10 61 rfl
theorem w1759 : Cond.instanceMethod ⟨"PalmHoursModel", "ticks", "(I)V"⟩ ∈ lw_g := pkW_i bkw10 62 rfl
theorem w1760 : Cond.code ⟨"PalmHoursModel", "ticks", "(I)V"⟩ cX12_ticks 3 none ∈ lw_g := pkW_i bkw10 63 rfl
theorem w1761 : Cond.methodLink "PalmHoursModel" 455 ⟨"PalmHoursModel", "isGone", "(II)Z"⟩ ∈ lw_g := pkW_i bkw10 64 rfl
theorem w1763 : Cond.instanceMethod ⟨"PalmHoursModel", "isGone", "(II)Z"⟩ ∈ lw_g := pkW_i bkw10 65 rfl
theorem w1764 : Cond.code ⟨"PalmHoursModel", "isGone", "(II)Z"⟩ cX12_isGone 3 (some .boolean) ∈ lw_g := pkW_i bkw10 66 rfl
theorem w1765 : Cond.methodLink "PalmHoursModel" 457 ⟨"PalmHoursModel", "puts", "(III)V"⟩ ∈ lw_g := pkW_i bkw10 67 rfl
theorem w1767 : Cond.instanceMethod ⟨"PalmHoursModel", "puts", "(III)V"⟩ ∈ lw_g := pkW_i bkw10 68 rfl
theorem w1768 : Cond.code ⟨"PalmHoursModel", "puts", "(III)V"⟩ cX12_puts 4 none ∈ lw_g := pkW_i bkw10 69 rfl
theorem w1781 : Cond.methodLink "PalmHoursModel" 484 ⟨"PalmHoursModel", "isDoneBy", "(II)Z"⟩ ∈ lw_g := pkW_i bkw10 70 rfl
theorem w1783 : Cond.instanceMethod ⟨"PalmHoursModel", "isDoneBy", "(II)Z"⟩ ∈ lw_g := pkW_i bkw10 71 rfl
theorem w1784 : Cond.code ⟨"PalmHoursModel", "isDoneBy", "(II)Z"⟩ cX12_isDoneBy 4 (some .boolean) ∈ lw_g := pkW_i bkw10 72 rfl
theorem w1793 : Cond.constantLong "PalmHoursModel" 487 (-1) ∈ lw_g := pkW_i bkw10 73 rfl
theorem w1795 : Cond.instanceMethod ⟨"PalmHoursModel", "way", "(II)I"⟩ ∈ lw_g := pkW_i bkw10 74 rfl
theorem w1796 : Cond.selects "PalmHoursModel" ⟨"PalmHoursModel", "way", "(II)I"⟩ ⟨"PalmHoursModel", "way", "(II)I"⟩ ∈ lw_g := pkW_i bkw10 75 rfl
theorem w1797 : Cond.code ⟨"PalmHoursModel", "way", "(II)I"⟩ cX12_way 3 (some .int) ∈ lw_g := pkW_i bkw10 76 rfl
theorem w1802 : Cond.methodLink "PalmHoursModel" 489 ⟨"PalmHoursModel", "way", "(II)I"⟩ ∈ lw_g := pkW_i bkw10 77 rfl
theorem w1803 : Cond.methodLink "PalmHoursModel" 492 ⟨"PalmHoursModel", "later", "(II)I"⟩ ∈ lw_g := pkW_i bkw10 78 rfl
theorem w1816 : Cond.methodLink "PalmHoursModel" 495 ⟨"PalmHoursModel", "heldBits", "(I)I"⟩ ∈ lw_g := pkW_i bkw10 79 rfl
theorem w1818 : Cond.instanceMethod ⟨"PalmHoursModel", "heldBits", "(I)I"⟩ ∈ lw_g := pkW_i bkw10 80 rfl
theorem w1819 : Cond.code ⟨"PalmHoursModel", "heldBits", "(I)I"⟩ cX12_heldBits 7 (some .int) ∈ lw_g := pkW_i bkw10 81 rfl
theorem w1828 : Cond.methodLink "PalmHoursModel" 498 ⟨"PalmHoursModel", "keeps", "()V"⟩ ∈ lw_g := pkW_i bkw10 82 rfl
theorem w1830 : Cond.instanceMethod ⟨"PalmHoursModel", "keeps", "()V"⟩ ∈ lw_g := pkW_i bkw10 83 rfl
theorem w1831 : Cond.code ⟨"PalmHoursModel", "keeps", "()V"⟩ cX12_keeps 1 none ∈ lw_g := pkW_i bkw10 84 rfl
theorem w1836 : Cond.methodLink "PalmHoursModel" 509 ⟨"PalmHoursModel", "draw", "(I)I"⟩ ∈ lw_g := pkW_i bkw10 85 rfl
theorem w1838 : Cond.instanceMethod ⟨"PalmHoursModel", "draw", "(I)I"⟩ ∈ lw_g := pkW_i bkw10 86 rfl
theorem w1839 : Cond.code ⟨"PalmHoursModel", "draw", "(I)I"⟩ cX12_draw 2 (some .int) ∈ lw_g := pkW_i bkw10 87 rfl
theorem w1840 : Cond.constantLong "PalmHoursModel" 501 (1103515245) ∈ lw_g := pkW_i bkw10 88 rfl
theorem w1841 : Cond.constantLong "PalmHoursModel" 503 (12345) ∈ lw_g := pkW_i bkw10 89 rfl
theorem w1842 : Cond.constantLong "PalmHoursModel" 505 (2147483648) ∈ lw_g := pkW_i bkw10 90 rfl
theorem w1843 : Cond.constantLong "PalmHoursModel" 507 (64) ∈ lw_g := pkW_i bkw10 91 rfl
theorem w1864 : Cond.methodLink "PalmHoursModel" 512 ⟨"PalmHoursModel", "writes", "(I)V"⟩ ∈ lw_g := pkW_i bkw10 92 rfl
theorem w1866 : Cond.instanceMethod ⟨"PalmHoursModel", "writes", "(I)V"⟩ ∈ lw_g := pkW_i bkw10 93 rfl
theorem w1867 : Cond.code ⟨"PalmHoursModel", "writes", "(I)V"⟩ cX12_writes 2 none ∈ lw_g := pkW_i bkw10 94 rfl
theorem w1876 : Cond.methodLink "PalmHoursModel" 518 ⟨"PalmHoursModel", "comesOn", "(I)Z"⟩ ∈ lw_g := pkW_i bkw10 95 rfl
def bkwl11 : List (Nat × Cond) := [(1878, Cond.instanceMethod ⟨"PalmHoursModel", "comesOn", "(I)Z"⟩), (1879, Cond.code ⟨"PalmHoursModel", "comesOn", "(I)Z"⟩ cX12_comesOn 5 (some .boolean)), (1880, Cond.methodLink "PalmHoursModel" 515 ⟨"PalmHoursModel", "cornerOn", "(II)Z"⟩), (1882, Cond.instanceMethod ⟨"PalmHoursModel", "cornerOn", "(II)Z"⟩), (1883, Cond.code ⟨"PalmHoursModel", "cornerOn", "(II)Z"⟩ cX12_cornerOn 4 (some .boolean))]
theorem bkw11 : pkW lw_tbl 0 bkwl11 = true := by decide +kernel
theorem w1878 : Cond.instanceMethod ⟨"PalmHoursModel", "comesOn", "(I)Z"⟩ ∈ lw_g := pkW_i bkw11 0 rfl
theorem w1879 : Cond.code ⟨"PalmHoursModel", "comesOn", "(I)Z"⟩ cX12_comesOn 5 (some .boolean) ∈ lw_g := pkW_i bkw11 1 rfl
theorem w1880 : Cond.methodLink "PalmHoursModel" 515 ⟨"PalmHoursModel", "cornerOn", "(II)Z"⟩ ∈ lw_g := pkW_i bkw11 2 rfl
theorem w1882 : Cond.instanceMethod ⟨"PalmHoursModel", "cornerOn", "(II)Z"⟩ ∈ lw_g := pkW_i bkw11 3 rfl
theorem w1883 : Cond.code ⟨"PalmHoursModel", "cornerOn", "(II)Z"⟩ cX12_cornerOn 4 (some .boolean) ∈ lw_g := pkW_i bkw11 4 rfl
theorem ic_b_10 : (Int8.ofInt (10)).toInt32 = (10 : Int32) := by decide
theorem ic_b_100 : (Int8.ofInt (100)).toInt32 = (100 : Int32) := by decide
theorem ic_b_12 : (Int8.ofInt (12)).toInt32 = (12 : Int32) := by decide
theorem ic_b_122 : (Int8.ofInt (122)).toInt32 = (122 : Int32) := by decide
theorem ic_b_16 : (Int8.ofInt (16)).toInt32 = (16 : Int32) := by decide
theorem ic_b_18 : (Int8.ofInt (18)).toInt32 = (18 : Int32) := by decide
theorem ic_b_20 : (Int8.ofInt (20)).toInt32 = (20 : Int32) := by decide
theorem ic_b_23 : (Int8.ofInt (23)).toInt32 = (23 : Int32) := by decide
theorem ic_b_24 : (Int8.ofInt (24)).toInt32 = (24 : Int32) := by decide
theorem ic_b_25 : (Int8.ofInt (25)).toInt32 = (25 : Int32) := by decide
theorem ic_b_27 : (Int8.ofInt (27)).toInt32 = (27 : Int32) := by decide
theorem ic_b_30 : (Int8.ofInt (30)).toInt32 = (30 : Int32) := by decide
theorem ic_b_31 : (Int8.ofInt (31)).toInt32 = (31 : Int32) := by decide
theorem ic_b_32 : (Int8.ofInt (32)).toInt32 = (32 : Int32) := by decide
theorem ic_b_33 : (Int8.ofInt (33)).toInt32 = (33 : Int32) := by decide
theorem ic_b_34 : (Int8.ofInt (34)).toInt32 = (34 : Int32) := by decide
theorem ic_b_35 : (Int8.ofInt (35)).toInt32 = (35 : Int32) := by decide
theorem ic_b_36 : (Int8.ofInt (36)).toInt32 = (36 : Int32) := by decide
theorem ic_b_37 : (Int8.ofInt (37)).toInt32 = (37 : Int32) := by decide
theorem ic_b_38 : (Int8.ofInt (38)).toInt32 = (38 : Int32) := by decide
theorem ic_b_39 : (Int8.ofInt (39)).toInt32 = (39 : Int32) := by decide
theorem ic_b_40 : (Int8.ofInt (40)).toInt32 = (40 : Int32) := by decide
theorem ic_b_41 : (Int8.ofInt (41)).toInt32 = (41 : Int32) := by decide
theorem ic_b_42 : (Int8.ofInt (42)).toInt32 = (42 : Int32) := by decide
theorem ic_b_43 : (Int8.ofInt (43)).toInt32 = (43 : Int32) := by decide
theorem ic_b_44 : (Int8.ofInt (44)).toInt32 = (44 : Int32) := by decide
theorem ic_b_45 : (Int8.ofInt (45)).toInt32 = (45 : Int32) := by decide
theorem ic_b_47 : (Int8.ofInt (47)).toInt32 = (47 : Int32) := by decide
theorem ic_b_48 : (Int8.ofInt (48)).toInt32 = (48 : Int32) := by decide
theorem ic_b_57 : (Int8.ofInt (57)).toInt32 = (57 : Int32) := by decide
theorem ic_b_59 : (Int8.ofInt (59)).toInt32 = (59 : Int32) := by decide
theorem ic_b_6 : (Int8.ofInt (6)).toInt32 = (6 : Int32) := by decide
theorem ic_b_60 : (Int8.ofInt (60)).toInt32 = (60 : Int32) := by decide
theorem ic_b_61 : (Int8.ofInt (61)).toInt32 = (61 : Int32) := by decide
theorem ic_b_62 : (Int8.ofInt (62)).toInt32 = (62 : Int32) := by decide
theorem ic_b_64 : (Int8.ofInt (64)).toInt32 = (64 : Int32) := by decide
theorem ic_b_7 : (Int8.ofInt (7)).toInt32 = (7 : Int32) := by decide
theorem ic_b_8 : (Int8.ofInt (8)).toInt32 = (8 : Int32) := by decide
theorem ic_b_80 : (Int8.ofInt (80)).toInt32 = (80 : Int32) := by decide
theorem ic_b_91 : (Int8.ofInt (91)).toInt32 = (91 : Int32) := by decide
theorem ic_b_93 : (Int8.ofInt (93)).toInt32 = (93 : Int32) := by decide
theorem ic_b_97 : (Int8.ofInt (97)).toInt32 = (97 : Int32) := by decide
theorem ic_b_99 : (Int8.ofInt (99)).toInt32 = (99 : Int32) := by decide
theorem ic_b_m10 : (Int8.ofInt (-10)).toInt32 = (-10 : Int32) := by decide
theorem ic_b_m11 : (Int8.ofInt (-11)).toInt32 = (-11 : Int32) := by decide
theorem ic_b_m12 : (Int8.ofInt (-12)).toInt32 = (-12 : Int32) := by decide
theorem ic_b_m13 : (Int8.ofInt (-13)).toInt32 = (-13 : Int32) := by decide
theorem ic_b_m14 : (Int8.ofInt (-14)).toInt32 = (-14 : Int32) := by decide
theorem ic_b_m15 : (Int8.ofInt (-15)).toInt32 = (-15 : Int32) := by decide
theorem ic_b_m16 : (Int8.ofInt (-16)).toInt32 = (-16 : Int32) := by decide
theorem ic_b_m17 : (Int8.ofInt (-17)).toInt32 = (-17 : Int32) := by decide
theorem ic_b_m18 : (Int8.ofInt (-18)).toInt32 = (-18 : Int32) := by decide
theorem ic_b_m19 : (Int8.ofInt (-19)).toInt32 = (-19 : Int32) := by decide
theorem ic_b_m2 : (Int8.ofInt (-2)).toInt32 = (-2 : Int32) := by decide
theorem ic_b_m3 : (Int8.ofInt (-3)).toInt32 = (-3 : Int32) := by decide
theorem ic_b_m4 : (Int8.ofInt (-4)).toInt32 = (-4 : Int32) := by decide
theorem ic_b_m5 : (Int8.ofInt (-5)).toInt32 = (-5 : Int32) := by decide
theorem ic_b_m6 : (Int8.ofInt (-6)).toInt32 = (-6 : Int32) := by decide
theorem ic_b_m7 : (Int8.ofInt (-7)).toInt32 = (-7 : Int32) := by decide
theorem ic_b_m8 : (Int8.ofInt (-8)).toInt32 = (-8 : Int32) := by decide
theorem ic_b_m9 : (Int8.ofInt (-9)).toInt32 = (-9 : Int32) := by decide
theorem ic_i_0 : Int32.ofInt (0) = (0 : Int32) := by decide
theorem ic_i_1 : Int32.ofInt (1) = (1 : Int32) := by decide
theorem ic_i_2 : Int32.ofInt (2) = (2 : Int32) := by decide
theorem ic_i_3 : Int32.ofInt (3) = (3 : Int32) := by decide
theorem ic_i_4 : Int32.ofInt (4) = (4 : Int32) := by decide
theorem ic_i_5 : Int32.ofInt (5) = (5 : Int32) := by decide
theorem ic_i_m1 : Int32.ofInt (-1) = (-1 : Int32) := by decide
theorem ic_i_m2 : Int32.ofInt (-2) = (-2 : Int32) := by decide
theorem ic_i_m8 : Int32.ofInt (-8) = (-8 : Int32) := by decide
theorem ic_s_1600 : (Int16.ofInt (1600)).toInt32 = (1600 : Int32) := by decide
theorem ic_s_227 : (Int16.ofInt (227)).toInt32 = (227 : Int32) := by decide
theorem ic_s_251 : (Int16.ofInt (251)).toInt32 = (251 : Int32) := by decide
theorem ic_s_255 : (Int16.ofInt (255)).toInt32 = (255 : Int32) := by decide
theorem ic_s_256 : (Int16.ofInt (256)).toInt32 = (256 : Int32) := by decide
theorem ic_s_257 : (Int16.ofInt (257)).toInt32 = (257 : Int32) := by decide
theorem ic_s_258 : (Int16.ofInt (258)).toInt32 = (258 : Int32) := by decide
theorem ic_s_259 : (Int16.ofInt (259)).toInt32 = (259 : Int32) := by decide
theorem ic_s_260 : (Int16.ofInt (260)).toInt32 = (260 : Int32) := by decide
theorem ic_s_261 : (Int16.ofInt (261)).toInt32 = (261 : Int32) := by decide
theorem ic_s_262 : (Int16.ofInt (262)).toInt32 = (262 : Int32) := by decide
theorem ic_s_265 : (Int16.ofInt (265)).toInt32 = (265 : Int32) := by decide
theorem ic_s_266 : (Int16.ofInt (266)).toInt32 = (266 : Int32) := by decide
theorem ic_s_268 : (Int16.ofInt (268)).toInt32 = (268 : Int32) := by decide
theorem ic_s_270 : (Int16.ofInt (270)).toInt32 = (270 : Int32) := by decide
theorem ic_s_271 : (Int16.ofInt (271)).toInt32 = (271 : Int32) := by decide
theorem ic_s_279 : (Int16.ofInt (279)).toInt32 = (279 : Int32) := by decide
theorem ic_s_280 : (Int16.ofInt (280)).toInt32 = (280 : Int32) := by decide
theorem ic_s_281 : (Int16.ofInt (281)).toInt32 = (281 : Int32) := by decide
theorem ic_s_999 : (Int16.ofInt (999)).toInt32 = (999 : Int32) := by decide
theorem ic_s_9999 : (Int16.ofInt (9999)).toInt32 = (9999 : Int32) := by decide
theorem kLX_0 : isK LX 0 11 := ⟨rfl, by decide⟩
theorem kLX_1 : isK LX 1 4 := ⟨rfl, by decide⟩
theorem kLX_2 : isK LX 2 3 := ⟨rfl, by decide⟩
theorem kLX_3 : isK LX 3 8 := ⟨rfl, by decide⟩
theorem kLX_4 : isK LX 4 13 := ⟨rfl, by decide⟩
theorem kLX_5 : isK LX 5 7 := ⟨rfl, by decide⟩
theorem kLX_6 : isK LX 6 13 := ⟨rfl, by decide⟩
theorem kLX_7 : isK LX 7 1 := ⟨rfl, by decide⟩
theorem kLX_8 : isK LX 8 13 := ⟨rfl, by decide⟩
theorem kLX_9 : isK LX 9 13 := ⟨rfl, by decide⟩
theorem kLX_10 : isK LX 10 6 := ⟨rfl, by decide⟩
theorem kLX_11 : isK LX 11 13 := ⟨rfl, by decide⟩
theorem kLX_12 : isK LX 12 13 := ⟨rfl, by decide⟩
theorem kLX_13 : isK LX 13 13 := ⟨rfl, by decide⟩
theorem kLX_14 : isK LX 14 13 := ⟨rfl, by decide⟩
theorem kLX_15 : isK LX 15 13 := ⟨rfl, by decide⟩
theorem kLX_16 : isK LX 16 2 := ⟨rfl, by decide⟩
theorem kLX_17 : isK LX 17 16 := ⟨rfl, by decide⟩
theorem kLX_18 : isK LX 18 10 := ⟨rfl, by decide⟩
theorem kLX_19 : isK LX 19 13 := ⟨rfl, by decide⟩
theorem kLX_20 : isK LX 20 13 := ⟨rfl, by decide⟩
theorem kLX_21 : isK LX 21 5 := ⟨rfl, by decide⟩
theorem kLX_22 : isK LX 22 13 := ⟨rfl, by decide⟩
theorem kLX_23 : isK LX 23 13 := ⟨rfl, by decide⟩
theorem kLX_24 : isK LX 24 13 := ⟨rfl, by decide⟩
theorem kLX_25 : isK LX 25 16 := ⟨rfl, by decide⟩
theorem kLX_26 : isK LX 26 13 := ⟨rfl, by decide⟩
theorem kLX_27 : isK LX 27 13 := ⟨rfl, by decide⟩
theorem kLX_28 : isK LX 28 13 := ⟨rfl, by decide⟩
theorem kLX_29 : isK LX 29 13 := ⟨rfl, by decide⟩
theorem kLX_30 : isK LX 30 13 := ⟨rfl, by decide⟩
theorem kLY_0 : isK LY 0 12 := ⟨rfl, by decide⟩
theorem kLY_1 : isK LY 1 13 := ⟨rfl, by decide⟩
theorem kLY_2 : isK LY 2 13 := ⟨rfl, by decide⟩
theorem kLY_3 : isK LY 3 13 := ⟨rfl, by decide⟩
theorem kLY_4 : isK LY 4 13 := ⟨rfl, by decide⟩
theorem kLY_5 : isK LY 5 13 := ⟨rfl, by decide⟩
theorem kLY_6 : isK LY 6 13 := ⟨rfl, by decide⟩
theorem kLY_7 : isK LY 7 13 := ⟨rfl, by decide⟩
theorem kLY_8 : isK LY 8 13 := ⟨rfl, by decide⟩
theorem kLY_9 : isK LY 9 13 := ⟨rfl, by decide⟩
theorem kLY_10 : isK LY 10 13 := ⟨rfl, by decide⟩
theorem kLY_11 : isK LY 11 13 := ⟨rfl, by decide⟩
theorem kLY_12 : isK LY 12 13 := ⟨rfl, by decide⟩
theorem kLY_13 : isK LY 13 13 := ⟨rfl, by decide⟩
theorem kLY_14 : isK LY 14 13 := ⟨rfl, by decide⟩
theorem kLY_15 : isK LY 15 13 := ⟨rfl, by decide⟩
theorem kLY_16 : isK LY 16 13 := ⟨rfl, by decide⟩
theorem kLY_17 : isK LY 17 13 := ⟨rfl, by decide⟩
theorem kLY_18 : isK LY 18 14 := ⟨rfl, by decide⟩
theorem kLY_19 : isK LY 19 14 := ⟨rfl, by decide⟩
theorem kLY_20 : isK LY 20 14 := ⟨rfl, by decide⟩
theorem kLY_21 : isK LY 21 13 := ⟨rfl, by decide⟩
theorem kLY_22 : isK LY 22 13 := ⟨rfl, by decide⟩
theorem kLY_23 : isK LY 23 15 := ⟨rfl, by decide⟩
theorem kLY_24 : isK LY 24 13 := ⟨rfl, by decide⟩
theorem kLY_25 : isK LY 25 13 := ⟨rfl, by decide⟩
theorem kLY_26 : isK LY 26 13 := ⟨rfl, by decide⟩
theorem kLY_27 : isK LY 27 13 := ⟨rfl, by decide⟩
theorem kLY_28 : isK LY 28 13 := ⟨rfl, by decide⟩
theorem kLY_29 : isK LY 29 13 := ⟨rfl, by decide⟩
theorem kLY_30 : isK LY 30 13 := ⟨rfl, by decide⟩
theorem kLY_31 : isK LY 31 13 := ⟨rfl, by decide⟩
theorem kLY_32 : isK LY 32 13 := ⟨rfl, by decide⟩
theorem kLY_33 : isK LY 33 13 := ⟨rfl, by decide⟩
theorem kLY_34 : isK LY 34 14 := ⟨rfl, by decide⟩
theorem kLY_35 : isK LY 35 13 := ⟨rfl, by decide⟩
theorem kLY_36 : isK LY 36 13 := ⟨rfl, by decide⟩
theorem kLY_37 : isK LY 37 13 := ⟨rfl, by decide⟩
theorem kLY_38 : isK LY 38 13 := ⟨rfl, by decide⟩
theorem kLY_39 : isK LY 39 13 := ⟨rfl, by decide⟩
theorem kLY_40 : isK LY 40 13 := ⟨rfl, by decide⟩
theorem kLY_41 : isK LY 41 13 := ⟨rfl, by decide⟩
theorem kLY_42 : isK LY 42 13 := ⟨rfl, by decide⟩
theorem kLY_43 : isK LY 43 13 := ⟨rfl, by decide⟩
theorem in_of (ws : List Cond) (ps : List Nat) (hp : ws = ps.filterMap (fun i => lw_tbl[i]?)) (h : ws.all goodWord = true) : ∀ w ∈ ws, w ∈ lw_g := fun w hw => by
  have h1 := List.all_eq_true.mp h w hw
  rw [hp] at hw
  obtain ⟨i, -, hi⟩ := List.mem_filterMap.mp hw
  exact mem_g (List.mem_of_getElem? hi) h1
theorem inX0 : ∀ w ∈ u_ws RX0 TX0 2, w ∈ lw_g := in_of _ [183, 185] (by decide +kernel) (by decide +kernel)
theorem inX1 : ∀ w ∈ u_ws RX1 TX1 8, w ∈ lw_g := in_of _ [429, 431, 433, 435, 437, 439, 441, 443] (by decide +kernel) (by decide +kernel)
theorem inX2 : ∀ w ∈ u_ws RX2 TX2 3, w ∈ lw_g := in_of _ [496, 498, 500] (by decide +kernel) (by decide +kernel)
theorem inX3 : ∀ w ∈ u_ws RX3 TX3 3, w ∈ lw_g := in_of _ [392, 394, 396] (by decide +kernel) (by decide +kernel)
theorem inX4 : ∀ w ∈ u_ws RX4 TX4 3, w ∈ lw_g := in_of _ [403, 405, 407] (by decide +kernel) (by decide +kernel)
theorem inX5 : ∀ w ∈ u_ws RX5 TX5 5, w ∈ lw_g := in_of _ [529, 531, 533, 535, 537] (by decide +kernel) (by decide +kernel)
theorem inX6 : ∀ w ∈ u_ws RX6 TX6 8, w ∈ lw_g := in_of _ [467, 469, 471, 473, 475, 477, 479, 481] (by decide +kernel) (by decide +kernel)
theorem inX7 : ∀ w ∈ u_ws RX7 TX7 2, w ∈ lw_g := in_of _ [160, 162] (by decide +kernel) (by decide +kernel)
theorem inX8 : ∀ w ∈ u_ws RX8 TX8 9, w ∈ lw_g := in_of _ [363, 365, 367, 369, 371, 373, 375, 377, 379] (by decide +kernel) (by decide +kernel)
theorem inX9 : ∀ w ∈ u_ws RX9 TX9 19, w ∈ lw_g := in_of _ [243, 245, 247, 249, 251, 253, 255, 257, 259, 261, 263, 265, 267, 269, 271, 273, 275, 277, 279] (by decide +kernel) (by decide +kernel)
theorem inX10 : ∀ w ∈ u_ws RX10 TX10 2, w ∈ lw_g := in_of _ [511, 513] (by decide +kernel) (by decide +kernel)
theorem inX11 : ∀ w ∈ u_ws RX11 TX11 18, w ∈ lw_g := in_of _ [626, 628, 630, 632, 634, 636, 638, 640, 642, 644, 646, 648, 650, 652, 654, 656, 658, 660] (by decide +kernel) (by decide +kernel)
theorem inX12 : ∀ w ∈ u_ws RX12 TX12 68, w ∈ lw_g := in_of _ [1310, 1312, 1314, 1316, 1318, 1320, 1322, 1324, 1326, 1328, 1330, 1332, 1334, 1336, 1338, 1340, 1342, 1344, 1346, 1348, 1350, 1352, 1354, 1356, 1358, 1360, 1362, 1364, 1366, 1368, 1370, 1372, 1374, 1376, 1378, 1380, 1382, 1384, 1386, 1388, 1390, 1392, 1394, 1396, 1398, 1400, 1402, 1404, 1406, 1408, 1410, 1412, 1414, 1416, 1418, 1420, 1422, 1424, 1426, 1428, 1430, 1432, 1434, 1436, 1438, 1440, 1442, 1444] (by decide +kernel) (by decide +kernel)
theorem flX0_15 : FL RX0 15 0 1 RX0 TX0 2 tyX0 := ⟨rfl, inX0, by decide, w180, by decide, tyX0_ok, nmX0⟩
theorem flX0_9 : FL RX0 9 0 0 RX0 TX0 2 tyX0 := ⟨rfl, inX0, by decide, w178, by decide, tyX0_ok, nmX0⟩
theorem flX10_15 : FL RX10 15 10 1 RX10 TX10 2 tyX10 := ⟨rfl, inX10, by decide, w510, by decide, tyX10_ok, nmX10⟩
theorem flX10_19 : FL RX10 19 9 5 RX9 TX9 19 tyX9 := ⟨rfl, inX9, by decide, w204, by decide, tyX9_ok, nmX9⟩
theorem flX10_25 : FL RX10 25 9 8 RX9 TX9 19 tyX9 := ⟨rfl, inX9, by decide, w213, by decide, tyX9_ok, nmX9⟩
theorem flX10_28 : FL RX10 28 9 9 RX9 TX9 19 tyX9 := ⟨rfl, inX9, by decide, w217, by decide, tyX9_ok, nmX9⟩
theorem flX10_31 : FL RX10 31 9 10 RX9 TX9 19 tyX9 := ⟨rfl, inX9, by decide, w219, by decide, tyX9_ok, nmX9⟩
theorem flX10_34 : FL RX10 34 9 11 RX9 TX9 19 tyX9 := ⟨rfl, inX9, by decide, w221, by decide, tyX9_ok, nmX9⟩
theorem flX10_9 : FL RX10 9 10 0 RX10 TX10 2 tyX10 := ⟨rfl, inX10, by decide, w509, by decide, tyX10_ok, nmX10⟩
theorem flX11_116 : FL RX11 116 7 1 RX7 TX7 2 tyX7 := ⟨rfl, inX7, by decide, w157, by decide, tyX7_ok, nmX7⟩
theorem flX11_12 : FL RX11 12 11 0 RX11 TX11 18 tyX11 := ⟨rfl, inX11, by decide, w608, by decide, tyX11_ok, nmX11⟩
theorem flX11_123 : FL RX11 123 4 0 RX4 TX4 3 tyX4 := ⟨rfl, inX4, by decide, w400, by decide, tyX4_ok, nmX4⟩
theorem flX11_127 : FL RX11 127 8 7 RX8 TX8 9 tyX8 := ⟨rfl, inX8, by decide, w360, by decide, tyX8_ok, nmX8⟩
theorem flX11_132 : FL RX11 132 8 8 RX8 TX8 9 tyX8 := ⟨rfl, inX8, by decide, w362, by decide, tyX8_ok, nmX8⟩
theorem flX11_133 : FL RX11 133 9 0 RX9 TX9 19 tyX9 := ⟨rfl, inX9, by decide, w190, by decide, tyX9_ok, nmX9⟩
theorem flX11_136 : FL RX11 136 9 1 RX9 TX9 19 tyX9 := ⟨rfl, inX9, by decide, w193, by decide, tyX9_ok, nmX9⟩
theorem flX11_139 : FL RX11 139 9 5 RX9 TX9 19 tyX9 := ⟨rfl, inX9, by decide, w206, by decide, tyX9_ok, nmX9⟩
theorem flX11_142 : FL RX11 142 9 8 RX9 TX9 19 tyX9 := ⟨rfl, inX9, by decide, w215, by decide, tyX9_ok, nmX9⟩
theorem flX11_145 : FL RX11 145 9 12 RX9 TX9 19 tyX9 := ⟨rfl, inX9, by decide, w225, by decide, tyX9_ok, nmX9⟩
theorem flX11_148 : FL RX11 148 6 1 RX6 TX6 8 tyX6 := ⟨rfl, inX6, by decide, w454, by decide, tyX6_ok, nmX6⟩
theorem flX11_158 : FL RX11 158 6 5 RX6 TX6 8 tyX6 := ⟨rfl, inX6, by decide, w462, by decide, tyX6_ok, nmX6⟩
theorem flX11_161 : FL RX11 161 5 0 RX5 TX5 5 tyX5 := ⟨rfl, inX5, by decide, w524, by decide, tyX5_ok, nmX5⟩
theorem flX11_164 : FL RX11 164 2 2 RX2 TX2 3 tyX2 := ⟨rfl, inX2, by decide, w495, by decide, tyX2_ok, nmX2⟩
theorem flX11_168 : FL RX11 168 9 2 RX9 TX9 19 tyX9 := ⟨rfl, inX9, by decide, w195, by decide, tyX9_ok, nmX9⟩
theorem flX11_178 : FL RX11 178 9 6 RX9 TX9 19 tyX9 := ⟨rfl, inX9, by decide, w208, by decide, tyX9_ok, nmX9⟩
theorem flX11_184 : FL RX11 184 9 13 RX9 TX9 19 tyX9 := ⟨rfl, inX9, by decide, w227, by decide, tyX9_ok, nmX9⟩
theorem flX11_187 : FL RX11 187 9 3 RX9 TX9 19 tyX9 := ⟨rfl, inX9, by decide, w198, by decide, tyX9_ok, nmX9⟩
theorem flX11_19 : FL RX11 19 11 1 RX11 TX11 18 tyX11 := ⟨rfl, inX11, by decide, w609, by decide, tyX11_ok, nmX11⟩
theorem flX11_190 : FL RX11 190 9 4 RX9 TX9 19 tyX9 := ⟨rfl, inX9, by decide, w201, by decide, tyX9_ok, nmX9⟩
theorem flX11_193 : FL RX11 193 6 2 RX6 TX6 8 tyX6 := ⟨rfl, inX6, by decide, w456, by decide, tyX6_ok, nmX6⟩
theorem flX11_195 : FL RX11 195 6 3 RX6 TX6 8 tyX6 := ⟨rfl, inX6, by decide, w458, by decide, tyX6_ok, nmX6⟩
theorem flX11_201 : FL RX11 201 9 14 RX9 TX9 19 tyX9 := ⟨rfl, inX9, by decide, w230, by decide, tyX9_ok, nmX9⟩
theorem flX11_204 : FL RX11 204 9 15 RX9 TX9 19 tyX9 := ⟨rfl, inX9, by decide, w233, by decide, tyX9_ok, nmX9⟩
theorem flX11_207 : FL RX11 207 6 4 RX6 TX6 8 tyX6 := ⟨rfl, inX6, by decide, w460, by decide, tyX6_ok, nmX6⟩
theorem flX11_23 : FL RX11 23 11 2 RX11 TX11 18 tyX11 := ⟨rfl, inX11, by decide, w610, by decide, tyX11_ok, nmX11⟩
theorem flX11_294 : FL RX11 294 6 6 RX6 TX6 8 tyX6 := ⟨rfl, inX6, by decide, w464, by decide, tyX6_ok, nmX6⟩
theorem flX11_297 : FL RX11 297 6 7 RX6 TX6 8 tyX6 := ⟨rfl, inX6, by decide, w466, by decide, tyX6_ok, nmX6⟩
theorem flX11_31 : FL RX11 31 11 3 RX11 TX11 18 tyX11 := ⟨rfl, inX11, by decide, w611, by decide, tyX11_ok, nmX11⟩
theorem flX11_312 : FL RX11 312 1 0 RX1 TX1 8 tyX1 := ⟨rfl, inX1, by decide, w417, by decide, tyX1_ok, nmX1⟩
theorem flX11_346 : FL RX11 346 9 16 RX9 TX9 19 tyX9 := ⟨rfl, inX9, by decide, w236, by decide, tyX9_ok, nmX9⟩
theorem flX11_355 : FL RX11 355 1 1 RX1 TX1 8 tyX1 := ⟨rfl, inX1, by decide, w419, by decide, tyX1_ok, nmX1⟩
theorem flX11_358 : FL RX11 358 1 4 RX1 TX1 8 tyX1 := ⟨rfl, inX1, by decide, w425, by decide, tyX1_ok, nmX1⟩
theorem flX11_40 : FL RX11 40 11 4 RX11 TX11 18 tyX11 := ⟨rfl, inX11, by decide, w612, by decide, tyX11_ok, nmX11⟩
theorem flX11_47 : FL RX11 47 11 5 RX11 TX11 18 tyX11 := ⟨rfl, inX11, by decide, w613, by decide, tyX11_ok, nmX11⟩
theorem flX11_54 : FL RX11 54 11 6 RX11 TX11 18 tyX11 := ⟨rfl, inX11, by decide, w614, by decide, tyX11_ok, nmX11⟩
theorem flX11_61 : FL RX11 61 11 7 RX11 TX11 18 tyX11 := ⟨rfl, inX11, by decide, w615, by decide, tyX11_ok, nmX11⟩
theorem flX11_68 : FL RX11 68 11 8 RX11 TX11 18 tyX11 := ⟨rfl, inX11, by decide, w616, by decide, tyX11_ok, nmX11⟩
theorem flX11_72 : FL RX11 72 11 9 RX11 TX11 18 tyX11 := ⟨rfl, inX11, by decide, w617, by decide, tyX11_ok, nmX11⟩
theorem flX11_76 : FL RX11 76 11 10 RX11 TX11 18 tyX11 := ⟨rfl, inX11, by decide, w618, by decide, tyX11_ok, nmX11⟩
theorem flX11_79 : FL RX11 79 11 11 RX11 TX11 18 tyX11 := ⟨rfl, inX11, by decide, w619, by decide, tyX11_ok, nmX11⟩
theorem flX11_82 : FL RX11 82 11 12 RX11 TX11 18 tyX11 := ⟨rfl, inX11, by decide, w620, by decide, tyX11_ok, nmX11⟩
theorem flX11_85 : FL RX11 85 11 13 RX11 TX11 18 tyX11 := ⟨rfl, inX11, by decide, w621, by decide, tyX11_ok, nmX11⟩
theorem flX11_88 : FL RX11 88 11 14 RX11 TX11 18 tyX11 := ⟨rfl, inX11, by decide, w622, by decide, tyX11_ok, nmX11⟩
theorem flX11_92 : FL RX11 92 11 15 RX11 TX11 18 tyX11 := ⟨rfl, inX11, by decide, w623, by decide, tyX11_ok, nmX11⟩
theorem flX11_95 : FL RX11 95 11 16 RX11 TX11 18 tyX11 := ⟨rfl, inX11, by decide, w624, by decide, tyX11_ok, nmX11⟩
theorem flX11_98 : FL RX11 98 11 17 RX11 TX11 18 tyX11 := ⟨rfl, inX11, by decide, w625, by decide, tyX11_ok, nmX11⟩
theorem flX12_102 : FL RX12 102 12 30 RX12 TX12 68 tyX12 := ⟨rfl, inX12, by decide, w1272, by decide, tyX12_ok, nmX12⟩
theorem flX12_106 : FL RX12 106 12 31 RX12 TX12 68 tyX12 := ⟨rfl, inX12, by decide, w1273, by decide, tyX12_ok, nmX12⟩
theorem flX12_109 : FL RX12 109 12 32 RX12 TX12 68 tyX12 := ⟨rfl, inX12, by decide, w1274, by decide, tyX12_ok, nmX12⟩
theorem flX12_112 : FL RX12 112 12 33 RX12 TX12 68 tyX12 := ⟨rfl, inX12, by decide, w1275, by decide, tyX12_ok, nmX12⟩
theorem flX12_115 : FL RX12 115 12 34 RX12 TX12 68 tyX12 := ⟨rfl, inX12, by decide, w1276, by decide, tyX12_ok, nmX12⟩
theorem flX12_118 : FL RX12 118 12 35 RX12 TX12 68 tyX12 := ⟨rfl, inX12, by decide, w1277, by decide, tyX12_ok, nmX12⟩
theorem flX12_122 : FL RX12 122 12 36 RX12 TX12 68 tyX12 := ⟨rfl, inX12, by decide, w1278, by decide, tyX12_ok, nmX12⟩
theorem flX12_125 : FL RX12 125 12 37 RX12 TX12 68 tyX12 := ⟨rfl, inX12, by decide, w1279, by decide, tyX12_ok, nmX12⟩
theorem flX12_128 : FL RX12 128 12 38 RX12 TX12 68 tyX12 := ⟨rfl, inX12, by decide, w1280, by decide, tyX12_ok, nmX12⟩
theorem flX12_13 : FL RX12 13 12 1 RX12 TX12 68 tyX12 := ⟨rfl, inX12, by decide, w1243, by decide, tyX12_ok, nmX12⟩
theorem flX12_132 : FL RX12 132 12 39 RX12 TX12 68 tyX12 := ⟨rfl, inX12, by decide, w1281, by decide, tyX12_ok, nmX12⟩
theorem flX12_135 : FL RX12 135 12 40 RX12 TX12 68 tyX12 := ⟨rfl, inX12, by decide, w1282, by decide, tyX12_ok, nmX12⟩
theorem flX12_138 : FL RX12 138 12 41 RX12 TX12 68 tyX12 := ⟨rfl, inX12, by decide, w1283, by decide, tyX12_ok, nmX12⟩
theorem flX12_141 : FL RX12 141 12 42 RX12 TX12 68 tyX12 := ⟨rfl, inX12, by decide, w1284, by decide, tyX12_ok, nmX12⟩
theorem flX12_144 : FL RX12 144 12 43 RX12 TX12 68 tyX12 := ⟨rfl, inX12, by decide, w1285, by decide, tyX12_ok, nmX12⟩
theorem flX12_147 : FL RX12 147 12 44 RX12 TX12 68 tyX12 := ⟨rfl, inX12, by decide, w1286, by decide, tyX12_ok, nmX12⟩
theorem flX12_150 : FL RX12 150 12 45 RX12 TX12 68 tyX12 := ⟨rfl, inX12, by decide, w1287, by decide, tyX12_ok, nmX12⟩
theorem flX12_153 : FL RX12 153 12 46 RX12 TX12 68 tyX12 := ⟨rfl, inX12, by decide, w1288, by decide, tyX12_ok, nmX12⟩
theorem flX12_156 : FL RX12 156 12 47 RX12 TX12 68 tyX12 := ⟨rfl, inX12, by decide, w1289, by decide, tyX12_ok, nmX12⟩
theorem flX12_159 : FL RX12 159 12 48 RX12 TX12 68 tyX12 := ⟨rfl, inX12, by decide, w1290, by decide, tyX12_ok, nmX12⟩
theorem flX12_162 : FL RX12 162 12 49 RX12 TX12 68 tyX12 := ⟨rfl, inX12, by decide, w1291, by decide, tyX12_ok, nmX12⟩
theorem flX12_165 : FL RX12 165 12 50 RX12 TX12 68 tyX12 := ⟨rfl, inX12, by decide, w1292, by decide, tyX12_ok, nmX12⟩
theorem flX12_168 : FL RX12 168 12 51 RX12 TX12 68 tyX12 := ⟨rfl, inX12, by decide, w1293, by decide, tyX12_ok, nmX12⟩
theorem flX12_17 : FL RX12 17 12 2 RX12 TX12 68 tyX12 := ⟨rfl, inX12, by decide, w1244, by decide, tyX12_ok, nmX12⟩
theorem flX12_171 : FL RX12 171 12 52 RX12 TX12 68 tyX12 := ⟨rfl, inX12, by decide, w1294, by decide, tyX12_ok, nmX12⟩
theorem flX12_174 : FL RX12 174 12 53 RX12 TX12 68 tyX12 := ⟨rfl, inX12, by decide, w1295, by decide, tyX12_ok, nmX12⟩
theorem flX12_177 : FL RX12 177 12 54 RX12 TX12 68 tyX12 := ⟨rfl, inX12, by decide, w1296, by decide, tyX12_ok, nmX12⟩
theorem flX12_180 : FL RX12 180 12 55 RX12 TX12 68 tyX12 := ⟨rfl, inX12, by decide, w1297, by decide, tyX12_ok, nmX12⟩
theorem flX12_183 : FL RX12 183 12 56 RX12 TX12 68 tyX12 := ⟨rfl, inX12, by decide, w1298, by decide, tyX12_ok, nmX12⟩
theorem flX12_186 : FL RX12 186 12 57 RX12 TX12 68 tyX12 := ⟨rfl, inX12, by decide, w1299, by decide, tyX12_ok, nmX12⟩
theorem flX12_189 : FL RX12 189 12 58 RX12 TX12 68 tyX12 := ⟨rfl, inX12, by decide, w1300, by decide, tyX12_ok, nmX12⟩
theorem flX12_192 : FL RX12 192 12 59 RX12 TX12 68 tyX12 := ⟨rfl, inX12, by decide, w1301, by decide, tyX12_ok, nmX12⟩
theorem flX12_195 : FL RX12 195 12 60 RX12 TX12 68 tyX12 := ⟨rfl, inX12, by decide, w1302, by decide, tyX12_ok, nmX12⟩
theorem flX12_198 : FL RX12 198 12 61 RX12 TX12 68 tyX12 := ⟨rfl, inX12, by decide, w1303, by decide, tyX12_ok, nmX12⟩
theorem flX12_20 : FL RX12 20 12 3 RX12 TX12 68 tyX12 := ⟨rfl, inX12, by decide, w1245, by decide, tyX12_ok, nmX12⟩
theorem flX12_201 : FL RX12 201 12 62 RX12 TX12 68 tyX12 := ⟨rfl, inX12, by decide, w1304, by decide, tyX12_ok, nmX12⟩
theorem flX12_204 : FL RX12 204 12 63 RX12 TX12 68 tyX12 := ⟨rfl, inX12, by decide, w1305, by decide, tyX12_ok, nmX12⟩
theorem flX12_207 : FL RX12 207 12 64 RX12 TX12 68 tyX12 := ⟨rfl, inX12, by decide, w1306, by decide, tyX12_ok, nmX12⟩
theorem flX12_210 : FL RX12 210 12 65 RX12 TX12 68 tyX12 := ⟨rfl, inX12, by decide, w1307, by decide, tyX12_ok, nmX12⟩
theorem flX12_213 : FL RX12 213 12 66 RX12 TX12 68 tyX12 := ⟨rfl, inX12, by decide, w1308, by decide, tyX12_ok, nmX12⟩
theorem flX12_216 : FL RX12 216 12 67 RX12 TX12 68 tyX12 := ⟨rfl, inX12, by decide, w1309, by decide, tyX12_ok, nmX12⟩
theorem flX12_23 : FL RX12 23 12 4 RX12 TX12 68 tyX12 := ⟨rfl, inX12, by decide, w1246, by decide, tyX12_ok, nmX12⟩
theorem flX12_26 : FL RX12 26 12 5 RX12 TX12 68 tyX12 := ⟨rfl, inX12, by decide, w1247, by decide, tyX12_ok, nmX12⟩
theorem flX12_29 : FL RX12 29 12 6 RX12 TX12 68 tyX12 := ⟨rfl, inX12, by decide, w1248, by decide, tyX12_ok, nmX12⟩
theorem flX12_32 : FL RX12 32 12 7 RX12 TX12 68 tyX12 := ⟨rfl, inX12, by decide, w1249, by decide, tyX12_ok, nmX12⟩
theorem flX12_36 : FL RX12 36 12 8 RX12 TX12 68 tyX12 := ⟨rfl, inX12, by decide, w1250, by decide, tyX12_ok, nmX12⟩
theorem flX12_39 : FL RX12 39 12 9 RX12 TX12 68 tyX12 := ⟨rfl, inX12, by decide, w1251, by decide, tyX12_ok, nmX12⟩
theorem flX12_42 : FL RX12 42 12 10 RX12 TX12 68 tyX12 := ⟨rfl, inX12, by decide, w1252, by decide, tyX12_ok, nmX12⟩
theorem flX12_45 : FL RX12 45 12 11 RX12 TX12 68 tyX12 := ⟨rfl, inX12, by decide, w1253, by decide, tyX12_ok, nmX12⟩
theorem flX12_48 : FL RX12 48 12 12 RX12 TX12 68 tyX12 := ⟨rfl, inX12, by decide, w1254, by decide, tyX12_ok, nmX12⟩
theorem flX12_51 : FL RX12 51 12 13 RX12 TX12 68 tyX12 := ⟨rfl, inX12, by decide, w1255, by decide, tyX12_ok, nmX12⟩
theorem flX12_54 : FL RX12 54 12 14 RX12 TX12 68 tyX12 := ⟨rfl, inX12, by decide, w1256, by decide, tyX12_ok, nmX12⟩
theorem flX12_57 : FL RX12 57 12 15 RX12 TX12 68 tyX12 := ⟨rfl, inX12, by decide, w1257, by decide, tyX12_ok, nmX12⟩
theorem flX12_60 : FL RX12 60 12 16 RX12 TX12 68 tyX12 := ⟨rfl, inX12, by decide, w1258, by decide, tyX12_ok, nmX12⟩
theorem flX12_63 : FL RX12 63 12 17 RX12 TX12 68 tyX12 := ⟨rfl, inX12, by decide, w1259, by decide, tyX12_ok, nmX12⟩
theorem flX12_66 : FL RX12 66 12 18 RX12 TX12 68 tyX12 := ⟨rfl, inX12, by decide, w1260, by decide, tyX12_ok, nmX12⟩
theorem flX12_69 : FL RX12 69 12 19 RX12 TX12 68 tyX12 := ⟨rfl, inX12, by decide, w1261, by decide, tyX12_ok, nmX12⟩
theorem flX12_7 : FL RX12 7 12 0 RX12 TX12 68 tyX12 := ⟨rfl, inX12, by decide, w1242, by decide, tyX12_ok, nmX12⟩
theorem flX12_72 : FL RX12 72 12 20 RX12 TX12 68 tyX12 := ⟨rfl, inX12, by decide, w1262, by decide, tyX12_ok, nmX12⟩
theorem flX12_75 : FL RX12 75 12 21 RX12 TX12 68 tyX12 := ⟨rfl, inX12, by decide, w1263, by decide, tyX12_ok, nmX12⟩
theorem flX12_78 : FL RX12 78 12 22 RX12 TX12 68 tyX12 := ⟨rfl, inX12, by decide, w1264, by decide, tyX12_ok, nmX12⟩
theorem flX12_81 : FL RX12 81 12 23 RX12 TX12 68 tyX12 := ⟨rfl, inX12, by decide, w1265, by decide, tyX12_ok, nmX12⟩
theorem flX12_84 : FL RX12 84 12 24 RX12 TX12 68 tyX12 := ⟨rfl, inX12, by decide, w1266, by decide, tyX12_ok, nmX12⟩
theorem flX12_87 : FL RX12 87 12 25 RX12 TX12 68 tyX12 := ⟨rfl, inX12, by decide, w1267, by decide, tyX12_ok, nmX12⟩
theorem flX12_90 : FL RX12 90 12 26 RX12 TX12 68 tyX12 := ⟨rfl, inX12, by decide, w1268, by decide, tyX12_ok, nmX12⟩
theorem flX12_93 : FL RX12 93 12 27 RX12 TX12 68 tyX12 := ⟨rfl, inX12, by decide, w1269, by decide, tyX12_ok, nmX12⟩
theorem flX12_96 : FL RX12 96 12 28 RX12 TX12 68 tyX12 := ⟨rfl, inX12, by decide, w1270, by decide, tyX12_ok, nmX12⟩
theorem flX12_99 : FL RX12 99 12 29 RX12 TX12 68 tyX12 := ⟨rfl, inX12, by decide, w1271, by decide, tyX12_ok, nmX12⟩
theorem flX1_15 : FL RX1 15 1 2 RX1 TX1 8 tyX1 := ⟨rfl, inX1, by decide, w420, by decide, tyX1_ok, nmX1⟩
theorem flX1_18 : FL RX1 18 1 3 RX1 TX1 8 tyX1 := ⟨rfl, inX1, by decide, w422, by decide, tyX1_ok, nmX1⟩
theorem flX1_21 : FL RX1 21 1 4 RX1 TX1 8 tyX1 := ⟨rfl, inX1, by decide, w424, by decide, tyX1_ok, nmX1⟩
theorem flX1_24 : FL RX1 24 1 5 RX1 TX1 8 tyX1 := ⟨rfl, inX1, by decide, w426, by decide, tyX1_ok, nmX1⟩
theorem flX1_28 : FL RX1 28 1 6 RX1 TX1 8 tyX1 := ⟨rfl, inX1, by decide, w427, by decide, tyX1_ok, nmX1⟩
theorem flX1_31 : FL RX1 31 1 7 RX1 TX1 8 tyX1 := ⟨rfl, inX1, by decide, w428, by decide, tyX1_ok, nmX1⟩
theorem flX1_34 : FL RX1 34 1 0 RX1 TX1 8 tyX1 := ⟨rfl, inX1, by decide, w416, by decide, tyX1_ok, nmX1⟩
theorem flX1_38 : FL RX1 38 9 17 RX9 TX9 19 tyX9 := ⟨rfl, inX9, by decide, w239, by decide, tyX9_ok, nmX9⟩
theorem flX1_58 : FL RX1 58 9 3 RX9 TX9 19 tyX9 := ⟨rfl, inX9, by decide, w197, by decide, tyX9_ok, nmX9⟩
theorem flX1_70 : FL RX1 70 9 18 RX9 TX9 19 tyX9 := ⟨rfl, inX9, by decide, w242, by decide, tyX9_ok, nmX9⟩
theorem flX1_73 : FL RX1 73 9 4 RX9 TX9 19 tyX9 := ⟨rfl, inX9, by decide, w200, by decide, tyX9_ok, nmX9⟩
theorem flX1_83 : FL RX1 83 0 1 RX0 TX0 2 tyX0 := ⟨rfl, inX0, by decide, w182, by decide, tyX0_ok, nmX0⟩
theorem flX1_86 : FL RX1 86 0 0 RX0 TX0 2 tyX0 := ⟨rfl, inX0, by decide, w179, by decide, tyX0_ok, nmX0⟩
theorem flX1_9 : FL RX1 9 1 1 RX1 TX1 8 tyX1 := ⟨rfl, inX1, by decide, w418, by decide, tyX1_ok, nmX1⟩
theorem flX2_13 : FL RX2 13 2 0 RX2 TX2 3 tyX2 := ⟨rfl, inX2, by decide, w492, by decide, tyX2_ok, nmX2⟩
theorem flX2_18 : FL RX2 18 2 1 RX2 TX2 3 tyX2 := ⟨rfl, inX2, by decide, w493, by decide, tyX2_ok, nmX2⟩
theorem flX2_22 : FL RX2 22 2 2 RX2 TX2 3 tyX2 := ⟨rfl, inX2, by decide, w494, by decide, tyX2_ok, nmX2⟩
theorem flX3_15 : FL RX3 15 3 0 RX3 TX3 3 tyX3 := ⟨rfl, inX3, by decide, w389, by decide, tyX3_ok, nmX3⟩
theorem flX3_19 : FL RX3 19 3 1 RX3 TX3 3 tyX3 := ⟨rfl, inX3, by decide, w390, by decide, tyX3_ok, nmX3⟩
theorem flX3_30 : FL RX3 30 8 2 RX8 TX8 9 tyX8 := ⟨rfl, inX8, by decide, w350, by decide, tyX8_ok, nmX8⟩
theorem flX3_40 : FL RX3 40 8 3 RX8 TX8 9 tyX8 := ⟨rfl, inX8, by decide, w353, by decide, tyX8_ok, nmX8⟩
theorem flX3_69 : FL RX3 69 8 5 RX8 TX8 9 tyX8 := ⟨rfl, inX8, by decide, w357, by decide, tyX8_ok, nmX8⟩
theorem flX3_9 : FL RX3 9 3 2 RX3 TX3 3 tyX3 := ⟨rfl, inX3, by decide, w391, by decide, tyX3_ok, nmX3⟩
theorem flX4_107 : FL RX4 107 9 18 RX9 TX9 19 tyX9 := ⟨rfl, inX9, by decide, w241, by decide, tyX9_ok, nmX9⟩
theorem flX4_14 : FL RX4 14 4 0 RX4 TX4 3 tyX4 := ⟨rfl, inX4, by decide, w399, by decide, tyX4_ok, nmX4⟩
theorem flX4_147 : FL RX4 147 9 7 RX9 TX9 19 tyX9 := ⟨rfl, inX9, by decide, w211, by decide, tyX9_ok, nmX9⟩
theorem flX4_151 : FL RX4 151 8 5 RX8 TX8 9 tyX8 := ⟨rfl, inX8, by decide, w356, by decide, tyX8_ok, nmX8⟩
theorem flX4_161 : FL RX4 161 9 16 RX9 TX9 19 tyX9 := ⟨rfl, inX9, by decide, w235, by decide, tyX9_ok, nmX9⟩
theorem flX4_22 : FL RX4 22 9 17 RX9 TX9 19 tyX9 := ⟨rfl, inX9, by decide, w237, by decide, tyX9_ok, nmX9⟩
theorem flX4_31 : FL RX4 31 4 1 RX4 TX4 3 tyX4 := ⟨rfl, inX4, by decide, w401, by decide, tyX4_ok, nmX4⟩
theorem flX4_35 : FL RX4 35 4 2 RX4 TX4 3 tyX4 := ⟨rfl, inX4, by decide, w402, by decide, tyX4_ok, nmX4⟩
theorem flX4_45 : FL RX4 45 8 2 RX8 TX8 9 tyX8 := ⟨rfl, inX8, by decide, w349, by decide, tyX8_ok, nmX8⟩
theorem flX4_57 : FL RX4 57 9 0 RX9 TX9 19 tyX9 := ⟨rfl, inX9, by decide, w189, by decide, tyX9_ok, nmX9⟩
theorem flX4_60 : FL RX4 60 8 3 RX8 TX8 9 tyX8 := ⟨rfl, inX8, by decide, w352, by decide, tyX8_ok, nmX8⟩
theorem flX4_67 : FL RX4 67 9 1 RX9 TX9 19 tyX9 := ⟨rfl, inX9, by decide, w192, by decide, tyX9_ok, nmX9⟩
theorem flX4_77 : FL RX4 77 9 5 RX9 TX9 19 tyX9 := ⟨rfl, inX9, by decide, w205, by decide, tyX9_ok, nmX9⟩
theorem flX4_83 : FL RX4 83 9 8 RX9 TX9 19 tyX9 := ⟨rfl, inX9, by decide, w214, by decide, tyX9_ok, nmX9⟩
theorem flX4_92 : FL RX4 92 9 12 RX9 TX9 19 tyX9 := ⟨rfl, inX9, by decide, w224, by decide, tyX9_ok, nmX9⟩
theorem flX5_15 : FL RX5 15 5 1 RX5 TX5 5 tyX5 := ⟨rfl, inX5, by decide, w525, by decide, tyX5_ok, nmX5⟩
theorem flX5_19 : FL RX5 19 5 2 RX5 TX5 5 tyX5 := ⟨rfl, inX5, by decide, w526, by decide, tyX5_ok, nmX5⟩
theorem flX5_22 : FL RX5 22 5 3 RX5 TX5 5 tyX5 := ⟨rfl, inX5, by decide, w527, by decide, tyX5_ok, nmX5⟩
theorem flX5_27 : FL RX5 27 5 4 RX5 TX5 5 tyX5 := ⟨rfl, inX5, by decide, w528, by decide, tyX5_ok, nmX5⟩
theorem flX5_30 : FL RX5 30 7 1 RX7 TX7 2 tyX7 := ⟨rfl, inX7, by decide, w156, by decide, tyX7_ok, nmX7⟩
theorem flX5_9 : FL RX5 9 5 0 RX5 TX5 5 tyX5 := ⟨rfl, inX5, by decide, w523, by decide, tyX5_ok, nmX5⟩
theorem flX6_104 : FL RX6 104 7 1 RX7 TX7 2 tyX7 := ⟨rfl, inX7, by decide, w159, by decide, tyX7_ok, nmX7⟩
theorem flX6_120 : FL RX6 120 7 0 RX7 TX7 2 tyX7 := ⟨rfl, inX7, by decide, w154, by decide, tyX7_ok, nmX7⟩
theorem flX6_15 : FL RX6 15 6 2 RX6 TX6 8 tyX6 := ⟨rfl, inX6, by decide, w455, by decide, tyX6_ok, nmX6⟩
theorem flX6_19 : FL RX6 19 6 3 RX6 TX6 8 tyX6 := ⟨rfl, inX6, by decide, w457, by decide, tyX6_ok, nmX6⟩
theorem flX6_22 : FL RX6 22 6 4 RX6 TX6 8 tyX6 := ⟨rfl, inX6, by decide, w459, by decide, tyX6_ok, nmX6⟩
theorem flX6_25 : FL RX6 25 6 5 RX6 TX6 8 tyX6 := ⟨rfl, inX6, by decide, w461, by decide, tyX6_ok, nmX6⟩
theorem flX6_28 : FL RX6 28 6 6 RX6 TX6 8 tyX6 := ⟨rfl, inX6, by decide, w463, by decide, tyX6_ok, nmX6⟩
theorem flX6_31 : FL RX6 31 6 7 RX6 TX6 8 tyX6 := ⟨rfl, inX6, by decide, w465, by decide, tyX6_ok, nmX6⟩
theorem flX6_34 : FL RX6 34 6 0 RX6 TX6 8 tyX6 := ⟨rfl, inX6, by decide, w452, by decide, tyX6_ok, nmX6⟩
theorem flX6_38 : FL RX6 38 9 5 RX9 TX9 19 tyX9 := ⟨rfl, inX9, by decide, w203, by decide, tyX9_ok, nmX9⟩
theorem flX6_43 : FL RX6 43 9 7 RX9 TX9 19 tyX9 := ⟨rfl, inX9, by decide, w210, by decide, tyX9_ok, nmX9⟩
theorem flX6_50 : FL RX6 50 9 12 RX9 TX9 19 tyX9 := ⟨rfl, inX9, by decide, w223, by decide, tyX9_ok, nmX9⟩
theorem flX6_62 : FL RX6 62 1 2 RX1 TX1 8 tyX1 := ⟨rfl, inX1, by decide, w421, by decide, tyX1_ok, nmX1⟩
theorem flX6_65 : FL RX6 65 1 3 RX1 TX1 8 tyX1 := ⟨rfl, inX1, by decide, w423, by decide, tyX1_ok, nmX1⟩
theorem flX6_81 : FL RX6 81 9 14 RX9 TX9 19 tyX9 := ⟨rfl, inX9, by decide, w229, by decide, tyX9_ok, nmX9⟩
theorem flX6_88 : FL RX6 88 9 15 RX9 TX9 19 tyX9 := ⟨rfl, inX9, by decide, w232, by decide, tyX9_ok, nmX9⟩
theorem flX6_9 : FL RX6 9 6 1 RX6 TX6 8 tyX6 := ⟨rfl, inX6, by decide, w453, by decide, tyX6_ok, nmX6⟩
theorem flX7_15 : FL RX7 15 7 1 RX7 TX7 2 tyX7 := ⟨rfl, inX7, by decide, w155, by decide, tyX7_ok, nmX7⟩
theorem flX7_9 : FL RX7 9 7 0 RX7 TX7 2 tyX7 := ⟨rfl, inX7, by decide, w153, by decide, tyX7_ok, nmX7⟩
theorem flX8_11 : FL RX8 11 8 1 RX8 TX8 9 tyX8 := ⟨rfl, inX8, by decide, w347, by decide, tyX8_ok, nmX8⟩
theorem flX8_15 : FL RX8 15 8 2 RX8 TX8 9 tyX8 := ⟨rfl, inX8, by decide, w348, by decide, tyX8_ok, nmX8⟩
theorem flX8_19 : FL RX8 19 8 3 RX8 TX8 9 tyX8 := ⟨rfl, inX8, by decide, w351, by decide, tyX8_ok, nmX8⟩
theorem flX8_22 : FL RX8 22 8 4 RX8 TX8 9 tyX8 := ⟨rfl, inX8, by decide, w354, by decide, tyX8_ok, nmX8⟩
theorem flX8_25 : FL RX8 25 8 5 RX8 TX8 9 tyX8 := ⟨rfl, inX8, by decide, w355, by decide, tyX8_ok, nmX8⟩
theorem flX8_28 : FL RX8 28 8 6 RX8 TX8 9 tyX8 := ⟨rfl, inX8, by decide, w358, by decide, tyX8_ok, nmX8⟩
theorem flX8_31 : FL RX8 31 8 7 RX8 TX8 9 tyX8 := ⟨rfl, inX8, by decide, w359, by decide, tyX8_ok, nmX8⟩
theorem flX8_34 : FL RX8 34 8 8 RX8 TX8 9 tyX8 := ⟨rfl, inX8, by decide, w361, by decide, tyX8_ok, nmX8⟩
theorem flX8_37 : FL RX8 37 8 0 RX8 TX8 9 tyX8 := ⟨rfl, inX8, by decide, w346, by decide, tyX8_ok, nmX8⟩
theorem flX8_93 : FL RX8 93 7 1 RX7 TX7 2 tyX7 := ⟨rfl, inX7, by decide, w158, by decide, tyX7_ok, nmX7⟩
theorem flX9_15 : FL RX9 15 9 1 RX9 TX9 19 tyX9 := ⟨rfl, inX9, by decide, w191, by decide, tyX9_ok, nmX9⟩
theorem flX9_18 : FL RX9 18 9 2 RX9 TX9 19 tyX9 := ⟨rfl, inX9, by decide, w194, by decide, tyX9_ok, nmX9⟩
theorem flX9_22 : FL RX9 22 9 3 RX9 TX9 19 tyX9 := ⟨rfl, inX9, by decide, w196, by decide, tyX9_ok, nmX9⟩
theorem flX9_25 : FL RX9 25 9 4 RX9 TX9 19 tyX9 := ⟨rfl, inX9, by decide, w199, by decide, tyX9_ok, nmX9⟩
theorem flX9_28 : FL RX9 28 9 5 RX9 TX9 19 tyX9 := ⟨rfl, inX9, by decide, w202, by decide, tyX9_ok, nmX9⟩
theorem flX9_31 : FL RX9 31 9 6 RX9 TX9 19 tyX9 := ⟨rfl, inX9, by decide, w207, by decide, tyX9_ok, nmX9⟩
theorem flX9_34 : FL RX9 34 9 7 RX9 TX9 19 tyX9 := ⟨rfl, inX9, by decide, w209, by decide, tyX9_ok, nmX9⟩
theorem flX9_37 : FL RX9 37 9 8 RX9 TX9 19 tyX9 := ⟨rfl, inX9, by decide, w212, by decide, tyX9_ok, nmX9⟩
theorem flX9_40 : FL RX9 40 9 9 RX9 TX9 19 tyX9 := ⟨rfl, inX9, by decide, w216, by decide, tyX9_ok, nmX9⟩
theorem flX9_43 : FL RX9 43 9 10 RX9 TX9 19 tyX9 := ⟨rfl, inX9, by decide, w218, by decide, tyX9_ok, nmX9⟩
theorem flX9_46 : FL RX9 46 9 11 RX9 TX9 19 tyX9 := ⟨rfl, inX9, by decide, w220, by decide, tyX9_ok, nmX9⟩
theorem flX9_49 : FL RX9 49 9 12 RX9 TX9 19 tyX9 := ⟨rfl, inX9, by decide, w222, by decide, tyX9_ok, nmX9⟩
theorem flX9_52 : FL RX9 52 9 13 RX9 TX9 19 tyX9 := ⟨rfl, inX9, by decide, w226, by decide, tyX9_ok, nmX9⟩
theorem flX9_55 : FL RX9 55 9 14 RX9 TX9 19 tyX9 := ⟨rfl, inX9, by decide, w228, by decide, tyX9_ok, nmX9⟩
theorem flX9_58 : FL RX9 58 9 15 RX9 TX9 19 tyX9 := ⟨rfl, inX9, by decide, w231, by decide, tyX9_ok, nmX9⟩
theorem flX9_61 : FL RX9 61 9 16 RX9 TX9 19 tyX9 := ⟨rfl, inX9, by decide, w234, by decide, tyX9_ok, nmX9⟩
theorem flX9_67 : FL RX9 67 9 17 RX9 TX9 19 tyX9 := ⟨rfl, inX9, by decide, w238, by decide, tyX9_ok, nmX9⟩
theorem flX9_71 : FL RX9 71 9 18 RX9 TX9 19 tyX9 := ⟨rfl, inX9, by decide, w240, by decide, tyX9_ok, nmX9⟩
theorem flX9_74 : FL RX9 74 0 1 RX0 TX0 2 tyX0 := ⟨rfl, inX0, by decide, w181, by decide, tyX0_ok, nmX0⟩
theorem flX9_9 : FL RX9 9 9 0 RX9 TX9 19 tyX9 := ⟨rfl, inX9, by decide, w188, by decide, tyX9_ok, nmX9⟩
end
section
theorem mdJ9_floorDiv_7cf53 : MD yJ9_floorDiv_7cf53 cJ9_floorDiv_7cf53 3 (some .int) 2 := ⟨w586, w136, by decide +kernel, by decide⟩
theorem mdJ9_floorMod_7cf53 : MD yJ9_floorMod_7cf53 cJ9_floorMod_7cf53 3 (some .int) 2 := ⟨w589, w136, by decide +kernel, by decide⟩
theorem mdX0_add : MD yX0_add cX0_add 2 none 1 := ⟨w847, w123, by decide +kernel, by decide⟩
theorem mdX0_isTold : MD yX0_isTold cX0_isTold 1 (some .boolean) 0 := ⟨w571, w123, by decide +kernel, by decide⟩
theorem mdX10_across : MD yX10_across cX10_across 5 (some .int) 3 := ⟨w1079, w134, by decide +kernel, by decide⟩
theorem mdX10_canBeAt : MD yX10_canBeAt cX10_canBeAt 3 (some .boolean) 2 := ⟨w1083, w134, by decide +kernel, by decide⟩
theorem mdX10_goOutFrom : MD yX10_goOutFrom cX10_goOutFrom 6 none 2 := ⟨w1076, w134, by decide +kernel, by decide⟩
theorem mdX10_shorten : MD yX10_shorten cX10_shorten 4 none 3 := ⟨w1062, w134, by decide +kernel, by decide⟩
theorem mdX10_stepsOf : MD yX10_stepsOf cX10_stepsOf 6 (some .int) 3 := ⟨w1057, w134, by decide +kernel, by decide⟩
theorem mdX11_begin : MD yX11_begin cX11_begin 1 none 0 := ⟨w543, w120, by decide +kernel, by decide⟩
theorem mdX11_countPlanned : MD yX11_countPlanned cX11_countPlanned 3 (some .int) 0 := ⟨w1018, w120, by decide +kernel, by decide⟩
theorem mdX11_countRowsOfOne : MD yX11_countRowsOfOne cX11_countRowsOfOne 5 (some .long) 1 := ⟨w1040, w120, by decide +kernel, by decide⟩
theorem mdX11_countRowsOfTwo : MD yX11_countRowsOfTwo cX11_countRowsOfTwo 7 (some .long) 1 := ⟨w1049, w120, by decide +kernel, by decide⟩
theorem mdX11_countRowsWithout : MD yX11_countRowsWithout cX11_countRowsWithout 3 (some .long) 0 := ⟨w1045, w120, by decide +kernel, by decide⟩
theorem mdX11_countStaying : MD yX11_countStaying cX11_countStaying 5 (some .int) 2 := ⟨w1030, w120, by decide +kernel, by decide⟩
theorem mdX11_doesAll : MD yX11_doesAll cX11_doesAll 7 (some .boolean) 4 := ⟨w1002, w120, by decide +kernel, by decide⟩
theorem mdX11_doesWithout : MD yX11_doesWithout cX11_doesWithout 5 (some .boolean) 4 := ⟨w998, w120, by decide +kernel, by decide⟩
theorem mdX11_draw : MD yX11_draw cX11_draw 2 (some .int) 1 := ⟨w1157, w120, by decide +kernel, by decide⟩
theorem mdX11_findGiving : MD yX11_findGiving cX11_findGiving 5 (some .int) 3 := ⟨w1014, w120, by decide +kernel, by decide⟩
theorem mdX11_findHeld : MD yX11_findHeld cX11_findHeld 5 (some .int) 1 := ⟨w1101, w120, by decide +kernel, by decide⟩
theorem mdX11_foresee : MD yX11_foresee cX11_foresee 4 (some .int) 3 := ⟨w969, w120, by decide +kernel, by decide⟩
theorem mdX11_hourAt : MD yX11_hourAt cX11_hourAt 2 (some .int) 1 := ⟨w947, w120, by decide +kernel, by decide⟩
theorem mdX11_isBeyond : MD yX11_isBeyond cX11_isBeyond 2 (some .boolean) 1 := ⟨w965, w120, by decide +kernel, by decide⟩
theorem mdX11_letPass : MD yX11_letPass cX11_letPass 2 (some .int) 0 := ⟨w1153, w120, by decide +kernel, by decide⟩
theorem mdX11_lookAt : MD yX11_lookAt cX11_lookAt 2 none 1 := ⟨w951, w120, by decide +kernel, by decide⟩
theorem mdX11_planAnywhere : MD yX11_planAnywhere cX11_planAnywhere 4 (some .boolean) 2 := ⟨w1022, w120, by decide +kernel, by decide⟩
theorem mdX11_planNeeded : MD yX11_planNeeded cX11_planNeeded 4 (some .boolean) 2 := ⟨w1010, w120, by decide +kernel, by decide⟩
theorem mdX11_planNothing : MD yX11_planNothing cX11_planNothing 4 (some .boolean) 2 := ⟨w994, w120, by decide +kernel, by decide⟩
theorem mdX11_putByAct : MD yX11_putByAct cX11_putByAct 3 (some .int) 2 := ⟨w1169, w120, by decide +kernel, by decide⟩
theorem mdX11_refuse : MD yX11_refuse cX11_refuse 2 (some .int) 1 := ⟨w674, w120, by decide +kernel, by decide⟩
theorem mdX11_tellsWithin : MD yX11_tellsWithin cX11_tellsWithin 5 (some .boolean) 3 := ⟨w1006, w120, by decide +kernel, by decide⟩
theorem mdX12_add : MD yX12_add cX12_add 3 none 2 := ⟨w1620, w137, by decide +kernel, by decide⟩
theorem mdX12_ahead : MD yX12_ahead cX12_ahead 6 none 0 := ⟨w1476, w137, by decide +kernel, by decide⟩
theorem mdX12_at : MD yX12_at cX12_at 4 (some .int) 3 := ⟨w1472, w137, by decide +kernel, by decide⟩
theorem mdX12_begin : MD yX12_begin cX12_begin 2 none 0 := ⟨w1652, w137, by decide +kernel, by decide⟩
theorem mdX12_bits : MD yX12_bits cX12_bits 3 (some .int) 1 := ⟨w1715, w137, by decide +kernel, by decide⟩
theorem mdX12_blame : MD yX12_blame cX12_blame 3 none 2 := ⟨w1494, w137, by decide +kernel, by decide⟩
theorem mdX12_comesOn : MD yX12_comesOn cX12_comesOn 5 (some .boolean) 1 := ⟨w1879, w137, by decide +kernel, by decide⟩
theorem mdX12_copies : MD yX12_copies cX12_copies 4 none 2 := ⟨w1708, w137, by decide +kernel, by decide⟩
theorem mdX12_cornerOn : MD yX12_cornerOn cX12_cornerOn 4 (some .boolean) 2 := ⟨w1883, w137, by decide +kernel, by decide⟩
theorem mdX12_cornering : MD yX12_cornering cX12_cornering 1 none 0 := ⟨w1566, w137, by decide +kernel, by decide⟩
theorem mdX12_counts : MD yX12_counts cX12_counts 2 (some .boolean) 1 := ⟨w1507, w137, by decide +kernel, by decide⟩
theorem mdX12_doings : MD yX12_doings cX12_doings 2 none 0 := ⟨w1585, w137, by decide +kernel, by decide⟩
theorem mdX12_draw : MD yX12_draw cX12_draw 2 (some .int) 1 := ⟨w1839, w137, by decide +kernel, by decide⟩
theorem mdX12_finishes : MD yX12_finishes cX12_finishes 3 none 1 := ⟨w1639, w137, by decide +kernel, by decide⟩
theorem mdX12_finishesDoings : MD yX12_finishesDoings cX12_finishesDoings 4 (some .int) 1 := ⟨w1656, w137, by decide +kernel, by decide⟩
theorem mdX12_floor : MD yX12_floor cX12_floor 6 (some .long) 2 := ⟨w1683, w137, by decide +kernel, by decide⟩
theorem mdX12_fresh : MD yX12_fresh cX12_fresh 3 (some .long) 0 := ⟨w1511, w137, by decide +kernel, by decide⟩
theorem mdX12_goesOn : MD yX12_goesOn cX12_goesOn 5 (some .boolean) 0 := ⟨w1624, w137, by decide +kernel, by decide⟩
theorem mdX12_has2 : MD yX12_has2 cX12_has2 2 (some .boolean) 2 := ⟨w1577, w137, by decide +kernel, by decide⟩
theorem mdX12_heldBits : MD yX12_heldBits cX12_heldBits 7 (some .int) 1 := ⟨w1819, w137, by decide +kernel, by decide⟩
theorem mdX12_holdsBack : MD yX12_holdsBack cX12_holdsBack 2 none 1 := ⟨w1608, w137, by decide +kernel, by decide⟩
theorem mdX12_hour : MD yX12_hour cX12_hour 5 (some .int) 2 := ⟨w1660, w137, by decide +kernel, by decide⟩
theorem mdX12_is : MD yX12_is cX12_is 3 (some .boolean) 3 := ⟨w1562, w137, by decide +kernel, by decide⟩
theorem mdX12_isAhead : MD yX12_isAhead cX12_isAhead 4 (some .boolean) 3 := ⟨w1752, w137, by decide +kernel, by decide⟩
theorem mdX12_isCorner : MD yX12_isCorner cX12_isCorner 2 (some .boolean) 1 := ⟨w1736, w137, by decide +kernel, by decide⟩
theorem mdX12_isDigit : MD yX12_isDigit cX12_isDigit 1 (some .boolean) 1 := ⟨w1482, w137, by decide +kernel, by decide⟩
theorem mdX12_isDoing : MD yX12_isDoing cX12_isDoing 2 (some .boolean) 1 := ⟨w1744, w137, by decide +kernel, by decide⟩
theorem mdX12_isDoneBy : MD yX12_isDoneBy cX12_isDoneBy 4 (some .boolean) 2 := ⟨w1784, w137, by decide +kernel, by decide⟩
theorem mdX12_isGone : MD yX12_isGone cX12_isGone 3 (some .boolean) 2 := ⟨w1764, w137, by decide +kernel, by decide⟩
theorem mdX12_isLetter : MD yX12_isLetter cX12_isLetter 1 (some .boolean) 1 := ⟨w1479, w137, by decide +kernel, by decide⟩
theorem mdX12_isOwn : MD yX12_isOwn cX12_isOwn 3 (some .boolean) 1 := ⟨w1515, w137, by decide +kernel, by decide⟩
theorem mdX12_isSign : MD yX12_isSign cX12_isSign 2 (some .boolean) 1 := ⟨w1612, w137, by decide +kernel, by decide⟩
theorem mdX12_isTest : MD yX12_isTest cX12_isTest 1 (some .boolean) 1 := ⟨w1604, w137, by decide +kernel, by decide⟩
theorem mdX12_isThing : MD yX12_isThing cX12_isThing 2 (some .boolean) 1 := ⟨w1728, w137, by decide +kernel, by decide⟩
theorem mdX12_isTold : MD yX12_isTold cX12_isTold 2 (some .boolean) 1 := ⟨w1668, w137, by decide +kernel, by decide⟩
theorem mdX12_isWord : MD yX12_isWord cX12_isWord 3 (some .boolean) 1 := ⟨w1499, w137, by decide +kernel, by decide⟩
theorem mdX12_joins : MD yX12_joins cX12_joins 2 none 1 := ⟨w1628, w137, by decide +kernel, by decide⟩
theorem mdX12_keeps : MD yX12_keeps cX12_keeps 1 none 0 := ⟨w1831, w137, by decide +kernel, by decide⟩
theorem mdX12_knownBut : MD yX12_knownBut cX12_knownBut 4 (some .int) 2 := ⟨w1574, w137, by decide +kernel, by decide⟩
theorem mdX12_later : MD yX12_later cX12_later 4 (some .int) 2 := ⟨w1748, w137, by decide +kernel, by decide⟩
theorem mdX12_lays : MD yX12_lays cX12_lays 4 none 2 := ⟨w1664, w137, by decide +kernel, by decide⟩
theorem mdX12_lex : MD yX12_lex cX12_lex 1 none 0 := ⟨w1490, w137, by decide +kernel, by decide⟩
theorem mdX12_manyOf : MD yX12_manyOf cX12_manyOf 3 (some .int) 2 := ⟨w1547, w137, by decide +kernel, by decide⟩
theorem mdX12_measures : MD yX12_measures cX12_measures 5 none 0 := ⟨w1647, w137, by decide +kernel, by decide⟩
theorem mdX12_must : MD yX12_must cX12_must 2 none 1 := ⟨w1643, w137, by decide +kernel, by decide⟩
theorem mdX12_must_ : MD yX12_must_ cX12_must_ 3 none 1 := ⟨w1555, w137, by decide +kernel, by decide⟩
theorem mdX12_nameOf : MD yX12_nameOf cX12_nameOf 4 (some .long) 3 := ⟨w1551, w137, by decide +kernel, by decide⟩
theorem mdX12_named : MD yX12_named cX12_named 5 (some .int) 2 := ⟨w1543, w137, by decide +kernel, by decide⟩
theorem mdX12_number : MD yX12_number cX12_number 4 (some .int) 2 := ⟨w1559, w137, by decide +kernel, by decide⟩
theorem mdX12_opens : MD yX12_opens cX12_opens 2 none 1 := ⟨w1616, w137, by decide +kernel, by decide⟩
theorem mdX12_operand : MD yX12_operand cX12_operand 4 (some .boolean) 0 := ⟨w1601, w137, by decide +kernel, by decide⟩
theorem mdX12_palming : MD yX12_palming cX12_palming 4 none 0 := ⟨w1581, w137, by decide +kernel, by decide⟩
theorem mdX12_passes : MD yX12_passes cX12_passes 2 (some .int) 1 := ⟨w1756, w137, by decide +kernel, by decide⟩
theorem mdX12_passing : MD yX12_passing cX12_passing 2 none 0 := ⟨w1635, w137, by decide +kernel, by decide⟩
theorem mdX12_pushes : MD yX12_pushes cX12_pushes 2 none 1 := ⟨w1597, w137, by decide +kernel, by decide⟩
theorem mdX12_put : MD yX12_put cX12_put 3 none 1 := ⟨w1460, w137, by decide +kernel, by decide⟩
theorem mdX12_puts : MD yX12_puts cX12_puts 4 none 3 := ⟨w1768, w137, by decide +kernel, by decide⟩
theorem mdX12_rank : MD yX12_rank cX12_rank 1 (some .int) 1 := ⟨w1631, w137, by decide +kernel, by decide⟩
theorem mdX12_reading : MD yX12_reading cX12_reading 3 none 1 := ⟨w1589, w137, by decide +kernel, by decide⟩
theorem mdX12_reads : MD yX12_reads cX12_reads 3 none 1 := ⟨w1593, w137, by decide +kernel, by decide⟩
theorem mdX12_reckons : MD yX12_reckons cX12_reckons 5 (some .long) 1 := ⟨w1672, w137, by decide +kernel, by decide⟩
theorem mdX12_refuses : MD yX12_refuses cX12_refuses 2 (some .int) 1 := ⟨w1456, w137, by decide +kernel, by decide⟩
theorem mdX12_roading : MD yX12_roading cX12_roading 5 none 0 := ⟨w1570, w137, by decide +kernel, by decide⟩
theorem mdX12_slot : MD yX12_slot cX12_slot 2 (some .int) 1 := ⟨w1704, w137, by decide +kernel, by decide⟩
theorem mdX12_statement : MD yX12_statement cX12_statement 1 none 0 := ⟨w1486, w137, by decide +kernel, by decide⟩
theorem mdX12_thinging : MD yX12_thinging cX12_thinging 2 none 0 := ⟨w1503, w137, by decide +kernel, by decide⟩
theorem mdX12_ticks : MD yX12_ticks cX12_ticks 3 none 1 := ⟨w1760, w137, by decide +kernel, by decide⟩
theorem mdX12_two : MD yX12_two cX12_two 5 (some .long) 3 := ⟨w1675, w137, by decide +kernel, by decide⟩
theorem mdX12_way : MD yX12_way cX12_way 3 (some .int) 2 := ⟨w1797, w137, by decide +kernel, by decide⟩
theorem mdX12_within : MD yX12_within cX12_within 2 (some .long) 1 := ⟨w1678, w137, by decide +kernel, by decide⟩
theorem mdX12_writes : MD yX12_writes cX12_writes 2 none 1 := ⟨w1867, w137, by decide +kernel, by decide⟩
theorem mdX12_writesDown : MD yX12_writesDown cX12_writesDown 4 none 2 := ⟨w1688, w137, by decide +kernel, by decide⟩
theorem mdX1_foresee : MD yX1_foresee cX1_foresee 5 (some .int) 2 := ⟨w973, w131, by decide +kernel, by decide⟩
theorem mdX1_goOn : MD yX1_goOn cX1_goOn 2 none 0 := ⟨w977, w131, by decide +kernel, by decide⟩
theorem mdX1_hold : MD yX1_hold cX1_hold 5 none 4 := ⟨w563, w131, by decide +kernel, by decide⟩
theorem mdX1_hourNow : MD yX1_hourNow cX1_hourNow 2 (some .int) 0 := ⟨w567, w131, by decide +kernel, by decide⟩
theorem mdX1_join : MD yX1_join cX1_join 8 none 1 := ⟨w583, w131, by decide +kernel, by decide⟩
theorem mdX1_valueOf : MD yX1_valueOf cX1_valueOf 5 (some .int) 1 := ⟨w575, w131, by decide +kernel, by decide⟩
theorem mdX2_bringBack : MD yX2_bringBack cX2_bringBack 2 (some .boolean) 1 := ⟨w1181, w133, by decide +kernel, by decide⟩
theorem mdX2_remember : MD yX2_remember cX2_remember 2 none 1 := ⟨w1131, w133, by decide +kernel, by decide⟩
theorem mdX3_add : MD yX3_add cX3_add 2 (some .boolean) 1 := ⟨w863, w130, by decide +kernel, by decide⟩
theorem mdX3_addAndAdvance : MD yX3_addAndAdvance cX3_addAndAdvance 2 (some .boolean) 1 := ⟨w843, w130, by decide +kernel, by decide⟩
theorem mdX3_comparisonStep : MD yX3_comparisonStep cX3_comparisonStep 1 (some .int) 0 := ⟨w887, w130, by decide +kernel, by decide⟩
theorem mdX3_goIn : MD yX3_goIn cX3_goIn 3 (some .boolean) 2 := ⟨w857, w130, by decide +kernel, by decide⟩
theorem mdX3_productStep : MD yX3_productStep cX3_productStep 1 (some .int) 0 := ⟨w891, w130, by decide +kernel, by decide⟩
theorem mdX3_readBoth : MD yX3_readBoth cX3_readBoth 3 (some .boolean) 1 := ⟨w875, w130, by decide +kernel, by decide⟩
theorem mdX3_readChoice : MD yX3_readChoice cX3_readChoice 2 (some .boolean) 1 := ⟨w867, w130, by decide +kernel, by decide⟩
theorem mdX3_readComparison : MD yX3_readComparison cX3_readComparison 3 (some .boolean) 1 := ⟨w883, w130, by decide +kernel, by decide⟩
theorem mdX3_readFact : MD yX3_readFact cX3_readFact 2 (some .boolean) 1 := ⟨w879, w130, by decide +kernel, by decide⟩
theorem mdX3_readGone : MD yX3_readGone cX3_readGone 2 (some .boolean) 1 := ⟨w899, w130, by decide +kernel, by decide⟩
theorem mdX3_readPair : MD yX3_readPair cX3_readPair 3 (some .boolean) 2 := ⟨w853, w130, by decide +kernel, by decide⟩
theorem mdX3_readPart : MD yX3_readPart cX3_readPart 2 (some .boolean) 1 := ⟨w839, w130, by decide +kernel, by decide⟩
theorem mdX3_readProduct : MD yX3_readProduct cX3_readProduct 4 (some .boolean) 1 := ⟨w835, w130, by decide +kernel, by decide⟩
theorem mdX3_readSays : MD yX3_readSays cX3_readSays 2 (some .boolean) 1 := ⟨w827, w130, by decide +kernel, by decide⟩
theorem mdX3_readSum : MD yX3_readSum cX3_readSum 4 (some .boolean) 1 := ⟨w831, w130, by decide +kernel, by decide⟩
theorem mdX3_readTest : MD yX3_readTest cX3_readTest 3 (some .boolean) 1 := ⟨w871, w130, by decide +kernel, by decide⟩
theorem mdX3_sumStep : MD yX3_sumStep cX3_sumStep 1 (some .int) 0 := ⟨w895, w130, by decide +kernel, by decide⟩
theorem mdX4_cornerHere : MD yX4_cornerHere cX4_cornerHere 2 (some .int) 0 := ⟨w802, w124, by decide +kernel, by decide⟩
theorem mdX4_newName : MD yX4_newName cX4_newName 2 (some .int) 0 := ⟨w753, w124, by decide +kernel, by decide⟩
theorem mdX4_number : MD yX4_number cX4_number 4 (some .int) 2 := ⟨w782, w124, by decide +kernel, by decide⟩
theorem mdX4_read : MD yX4_read cX4_read 3 (some .boolean) 1 := ⟨w690, w124, by decide +kernel, by decide⟩
theorem mdX4_readCorner : MD yX4_readCorner cX4_readCorner 2 (some .boolean) 0 := ⟨w790, w124, by decide +kernel, by decide⟩
theorem mdX4_readDoing : MD yX4_readDoing cX4_readDoing 4 (some .boolean) 0 := ⟨w818, w124, by decide +kernel, by decide⟩
theorem mdX4_readPalm : MD yX4_readPalm cX4_readPalm 3 (some .boolean) 0 := ⟨w814, w124, by decide +kernel, by decide⟩
theorem mdX4_readPass : MD yX4_readPass cX4_readPass 2 (some .boolean) 0 := ⟨w903, w124, by decide +kernel, by decide⟩
theorem mdX4_readRoad : MD yX4_readRoad cX4_readRoad 4 (some .boolean) 0 := ⟨w798, w124, by decide +kernel, by decide⟩
theorem mdX4_readStatement : MD yX4_readStatement cX4_readStatement 1 (some .boolean) 0 := ⟨w736, w124, by decide +kernel, by decide⟩
theorem mdX4_readThing : MD yX4_readThing cX4_readThing 4 (some .boolean) 0 := ⟨w749, w124, by decide +kernel, by decide⟩
theorem mdX4_skipFirst : MD yX4_skipFirst cX4_skipFirst 2 (some .boolean) 1 := ⟨w740, w124, by decide +kernel, by decide⟩
theorem mdX5_isAbout : MD yX5_isAbout cX5_isAbout 3 (some .boolean) 1 := ⟨w1105, w135, by decide +kernel, by decide⟩
theorem mdX5_isSo : MD yX5_isSo cX5_isSo 6 (some .boolean) 3 := ⟨w1109, w135, by decide +kernel, by decide⟩
theorem mdX5_mostLeft : MD yX5_mostLeft cX5_mostLeft 8 (some .int) 2 := ⟨w1122, w135, by decide +kernel, by decide⟩
theorem mdX5_noteHours : MD yX5_noteHours cX5_noteHours 5 none 3 := ⟨w1113, w135, by decide +kernel, by decide⟩
theorem mdX5_read : MD yX5_read cX5_read 6 (some .boolean) 2 := ⟨w1091, w135, by decide +kernel, by decide⟩
theorem mdX6_begin : MD yX6_begin cX6_begin 3 none 1 := ⟨w547, w132, by decide +kernel, by decide⟩
theorem mdX6_bringBack : MD yX6_bringBack cX6_bringBack 2 none 1 := ⟨w1185, w132, by decide +kernel, by decide⟩
theorem mdX6_checkOf : MD yX6_checkOf cX6_checkOf 4 (some .int) 2 := ⟨w1208, w132, by decide +kernel, by decide⟩
theorem mdX6_countDone : MD yX6_countDone cX6_countDone 3 (some .int) 0 := ⟨w915, w132, by decide +kernel, by decide⟩
theorem mdX6_countEmpty : MD yX6_countEmpty cX6_countEmpty 3 (some .int) 0 := ⟨w919, w132, by decide +kernel, by decide⟩
theorem mdX6_doWhatIsDue : MD yX6_doWhatIsDue cX6_doWhatIsDue 4 (some .int) 1 := ⟨w555, w132, by decide +kernel, by decide⟩
theorem mdX6_goOn : MD yX6_goOn cX6_goOn 3 none 1 := ⟨w1143, w132, by decide +kernel, by decide⟩
theorem mdX6_imageSize : MD yX6_imageSize cX6_imageSize 1 (some .int) 0 := ⟨w1205, w132, by decide +kernel, by decide⟩
theorem mdX6_isDue : MD yX6_isDue cX6_isDue 4 (some .boolean) 2 := ⟨w559, w132, by decide +kernel, by decide⟩
theorem mdX6_isImage : MD yX6_isImage cX6_isImage 6 (some .boolean) 1 := ⟨w1220, w132, by decide +kernel, by decide⟩
theorem mdX6_keep : MD yX6_keep cX6_keep 2 none 1 := ⟨w607, w132, by decide +kernel, by decide⟩
theorem mdX6_put : MD yX6_put cX6_put 3 none 2 := ⟨w551, w132, by decide +kernel, by decide⟩
theorem mdX6_readImage : MD yX6_readImage cX6_readImage 4 none 1 := ⟨w1231, w132, by decide +kernel, by decide⟩
theorem mdX6_save : MD yX6_save cX6_save 2 none 1 := ⟨w1135, w132, by decide +kernel, by decide⟩
theorem mdX6_writeImage : MD yX6_writeImage cX6_writeImage 5 (some .int) 1 := ⟨w1201, w132, by decide +kernel, by decide⟩
theorem mdX7_addNumber : MD yX7_addNumber cX7_addNumber 3 none 1 := ⟨w678, w121, by decide +kernel, by decide⟩
theorem mdX7_at : MD yX7_at cX7_at 2 (some .int) 1 := ⟨w714, w121, by decide +kernel, by decide⟩
theorem mdX7_hasRoomFor : MD yX7_hasRoomFor cX7_hasRoomFor 2 (some .boolean) 1 := ⟨w670, w121, by decide +kernel, by decide⟩
theorem mdX7_pairAt : MD yX7_pairAt cX7_pairAt 2 (some .int) 1 := ⟨w1224, w121, by decide +kernel, by decide⟩
theorem mdX8_advance : MD yX8_advance cX8_advance 4 none 0 := ⟨w702, w125, by decide +kernel, by decide⟩
theorem mdX8_begin : MD yX8_begin cX8_begin 1 none 0 := ⟨w698, w125, by decide +kernel, by decide⟩
theorem mdX8_fail : MD yX8_fail cX8_fail 3 (some .boolean) 2 := ⟨w744, w125, by decide +kernel, by decide⟩
theorem mdX8_failHere : MD yX8_failHere cX8_failHere 1 (some .boolean) 0 := ⟨w757, w125, by decide +kernel, by decide⟩
theorem mdX8_fillUp : MD yX8_fillUp cX8_fillUp 4 (some .int) 2 := ⟨w345, w125, by decide +kernel, by decide⟩
theorem mdX8_isDigit : MD yX8_isDigit cX8_isDigit 1 (some .boolean) 1 := ⟨w728, w125, by decide +kernel, by decide⟩
theorem mdX8_isLetter : MD yX8_isLetter cX8_isLetter 1 (some .boolean) 1 := ⟨w717, w125, by decide +kernel, by decide⟩
theorem mdX8_isWordOrNumber : MD yX8_isWordOrNumber cX8_isWordOrNumber 1 (some .boolean) 0 := ⟨w706, w125, by decide +kernel, by decide⟩
theorem mdX8_kindOf : MD yX8_kindOf cX8_kindOf 3 (some .int) 1 := ⟨w725, w125, by decide +kernel, by decide⟩
theorem mdX8_letterOf : MD yX8_letterOf cX8_letterOf 4 (some .int) 2 := ⟨w927, w125, by decide +kernel, by decide⟩
theorem mdX8_readNumber : MD yX8_readNumber cX8_readNumber 3 none 0 := ⟨w732, w125, by decide +kernel, by decide⟩
theorem mdX8_readWord : MD yX8_readWord cX8_readWord 3 none 0 := ⟨w721, w125, by decide +kernel, by decide⟩
theorem mdX8_skip : MD yX8_skip cX8_skip 2 (some .boolean) 1 := ⟨w777, w125, by decide +kernel, by decide⟩
theorem mdX8_skipBlanks : MD yX8_skipBlanks cX8_skipBlanks 2 none 0 := ⟨w710, w125, by decide +kernel, by decide⟩
theorem mdX9_addCorner : MD yX9_addCorner cX9_addCorner 2 none 1 := ⟨w794, w122, by decide +kernel, by decide⟩
theorem mdX9_addDoing : MD yX9_addDoing cX9_addDoing 4 none 3 := ⟨w822, w122, by decide +kernel, by decide⟩
theorem mdX9_addRoad : MD yX9_addRoad cX9_addRoad 4 none 3 := ⟨w810, w122, by decide +kernel, by decide⟩
theorem mdX9_addThing : MD yX9_addThing cX9_addThing 4 none 3 := ⟨w786, w122, by decide +kernel, by decide⟩
theorem mdX9_clear : MD yX9_clear cX9_clear 1 none 0 := ⟨w694, w122, by decide +kernel, by decide⟩
theorem mdX9_find : MD yX9_find cX9_find 4 (some .int) 3 := ⟨w765, w122, by decide +kernel, by decide⟩
theorem mdX9_findCorner : MD yX9_findCorner cX9_findCorner 2 (some .int) 1 := ⟨w769, w122, by decide +kernel, by decide⟩
theorem mdX9_findDoing : MD yX9_findDoing cX9_findDoing 2 (some .int) 1 := ⟨w773, w122, by decide +kernel, by decide⟩
theorem mdX9_findThing : MD yX9_findThing cX9_findThing 2 (some .int) 1 := ⟨w762, w122, by decide +kernel, by decide⟩
theorem mdX9_hasRoad : MD yX9_hasRoad cX9_hasRoad 6 (some .boolean) 2 := ⟨w806, w122, by decide +kernel, by decide⟩
theorem mdX9_isCorner : MD yX9_isCorner cX9_isCorner 2 (some .boolean) 1 := ⟨w931, w122, by decide +kernel, by decide⟩
theorem mdX9_isDoing : MD yX9_isDoing cX9_isDoing 2 (some .boolean) 1 := ⟨w935, w122, by decide +kernel, by decide⟩
theorem mdX9_isThing : MD yX9_isThing cX9_isThing 2 (some .boolean) 1 := ⟨w579, w122, by decide +kernel, by decide⟩
theorem mvX0_add : MV yX0_add := ⟨w845, w846⟩
theorem mvX0_isTold : MV yX0_isTold := ⟨w569, w570⟩
theorem mvX10_canBeAt : MV yX10_canBeAt := ⟨w1081, w1082⟩
theorem mvX10_goOutFrom : MV yX10_goOutFrom := ⟨w1074, w1075⟩
theorem mvX10_shorten : MV yX10_shorten := ⟨w1061, w53⟩
theorem mvX10_stepsOf : MV yX10_stepsOf := ⟨w1055, w1056⟩
theorem mvX11_begin : MV yX11_begin := ⟨w542, w0⟩
theorem mvX11_countPlanned : MV yX11_countPlanned := ⟨w1017, w47⟩
theorem mvX11_countRowsOfOne : MV yX11_countRowsOfOne := ⟨w1039, w50⟩
theorem mvX11_countRowsOfTwo : MV yX11_countRowsOfTwo := ⟨w1048, w52⟩
theorem mvX11_countRowsWithout : MV yX11_countRowsWithout := ⟨w1044, w51⟩
theorem mvX11_countStaying : MV yX11_countStaying := ⟨w1029, w49⟩
theorem mvX11_doesAll : MV yX11_doesAll := ⟨w1001, w43⟩
theorem mvX11_doesWithout : MV yX11_doesWithout := ⟨w997, w42⟩
theorem mvX11_draw : MV yX11_draw := ⟨w1156, w56⟩
theorem mvX11_findGiving : MV yX11_findGiving := ⟨w1013, w46⟩
theorem mvX11_findHeld : MV yX11_findHeld := ⟨w1100, w54⟩
theorem mvX11_foresee : MV yX11_foresee := ⟨w968, w40⟩
theorem mvX11_hourAt : MV yX11_hourAt := ⟨w946, w37⟩
theorem mvX11_isBeyond : MV yX11_isBeyond := ⟨w964, w39⟩
theorem mvX11_letPass : MV yX11_letPass := ⟨w1152, w55⟩
theorem mvX11_lookAt : MV yX11_lookAt := ⟨w950, w38⟩
theorem mvX11_planAnywhere : MV yX11_planAnywhere := ⟨w1021, w48⟩
theorem mvX11_planNeeded : MV yX11_planNeeded := ⟨w1009, w45⟩
theorem mvX11_planNothing : MV yX11_planNothing := ⟨w993, w41⟩
theorem mvX11_putByAct : MV yX11_putByAct := ⟨w1168, w57⟩
theorem mvX11_refuse : MV yX11_refuse := ⟨w673, w5⟩
theorem mvX11_tellsWithin : MV yX11_tellsWithin := ⟨w1005, w44⟩
theorem mvX12_add : MV yX12_add := ⟨w1619, w88⟩
theorem mvX12_ahead : MV yX12_ahead := ⟨w1475, w62⟩
theorem mvX12_at : MV yX12_at := ⟨w1471, w61⟩
theorem mvX12_begin : MV yX12_begin := ⟨w1651, w95⟩
theorem mvX12_blame : MV yX12_blame := ⟨w1493, w65⟩
theorem mvX12_comesOn : MV yX12_comesOn := ⟨w1878, w117⟩
theorem mvX12_copies : MV yX12_copies := ⟨w1707, w103⟩
theorem mvX12_cornerOn : MV yX12_cornerOn := ⟨w1882, w118⟩
theorem mvX12_cornering : MV yX12_cornering := ⟨w1565, w76⟩
theorem mvX12_counts : MV yX12_counts := ⟨w1506, w68⟩
theorem mvX12_doings : MV yX12_doings := ⟨w1584, w80⟩
theorem mvX12_draw : MV yX12_draw := ⟨w1838, w115⟩
theorem mvX12_finishes : MV yX12_finishes := ⟨w1638, w92⟩
theorem mvX12_finishesDoings : MV yX12_finishesDoings := ⟨w1655, w96⟩
theorem mvX12_fresh : MV yX12_fresh := ⟨w1510, w69⟩
theorem mvX12_goesOn : MV yX12_goesOn := ⟨w1623, w89⟩
theorem mvX12_heldBits : MV yX12_heldBits := ⟨w1818, w113⟩
theorem mvX12_holdsBack : MV yX12_holdsBack := ⟨w1607, w85⟩
theorem mvX12_hour : MV yX12_hour := ⟨w1659, w97⟩
theorem mvX12_isAhead : MV yX12_isAhead := ⟨w1751, w107⟩
theorem mvX12_isCorner : MV yX12_isCorner := ⟨w1735, w105⟩
theorem mvX12_isDoing : MV yX12_isDoing := ⟨w1743, w106⟩
theorem mvX12_isDoneBy : MV yX12_isDoneBy := ⟨w1783, w112⟩
theorem mvX12_isGone : MV yX12_isGone := ⟨w1763, w110⟩
theorem mvX12_isOwn : MV yX12_isOwn := ⟨w1514, w70⟩
theorem mvX12_isSign : MV yX12_isSign := ⟨w1611, w86⟩
theorem mvX12_isThing : MV yX12_isThing := ⟨w1727, w104⟩
theorem mvX12_isTold : MV yX12_isTold := ⟨w1667, w99⟩
theorem mvX12_isWord : MV yX12_isWord := ⟨w1498, w66⟩
theorem mvX12_joins : MV yX12_joins := ⟨w1627, w90⟩
theorem mvX12_keeps : MV yX12_keeps := ⟨w1830, w114⟩
theorem mvX12_knownBut : MV yX12_knownBut := ⟨w1573, w78⟩
theorem mvX12_later : MV yX12_later := ⟨w1746, w1747⟩
theorem mvX12_lays : MV yX12_lays := ⟨w1663, w98⟩
theorem mvX12_lex : MV yX12_lex := ⟨w1489, w64⟩
theorem mvX12_manyOf : MV yX12_manyOf := ⟨w1546, w72⟩
theorem mvX12_measures : MV yX12_measures := ⟨w1646, w94⟩
theorem mvX12_must : MV yX12_must := ⟨w1642, w93⟩
theorem mvX12_must_ : MV yX12_must_ := ⟨w1554, w74⟩
theorem mvX12_nameOf : MV yX12_nameOf := ⟨w1550, w73⟩
theorem mvX12_named : MV yX12_named := ⟨w1542, w71⟩
theorem mvX12_number : MV yX12_number := ⟨w1558, w75⟩
theorem mvX12_opens : MV yX12_opens := ⟨w1615, w87⟩
theorem mvX12_operand : MV yX12_operand := ⟨w1600, w84⟩
theorem mvX12_palming : MV yX12_palming := ⟨w1580, w79⟩
theorem mvX12_passes : MV yX12_passes := ⟨w1755, w108⟩
theorem mvX12_passing : MV yX12_passing := ⟨w1634, w91⟩
theorem mvX12_pushes : MV yX12_pushes := ⟨w1596, w83⟩
theorem mvX12_put : MV yX12_put := ⟨w1459, w60⟩
theorem mvX12_puts : MV yX12_puts := ⟨w1767, w111⟩
theorem mvX12_reading : MV yX12_reading := ⟨w1588, w81⟩
theorem mvX12_reads : MV yX12_reads := ⟨w1592, w82⟩
theorem mvX12_reckons : MV yX12_reckons := ⟨w1671, w100⟩
theorem mvX12_refuses : MV yX12_refuses := ⟨w1455, w59⟩
theorem mvX12_roading : MV yX12_roading := ⟨w1569, w77⟩
theorem mvX12_slot : MV yX12_slot := ⟨w1703, w102⟩
theorem mvX12_statement : MV yX12_statement := ⟨w1485, w63⟩
theorem mvX12_thinging : MV yX12_thinging := ⟨w1502, w67⟩
theorem mvX12_ticks : MV yX12_ticks := ⟨w1759, w109⟩
theorem mvX12_way : MV yX12_way := ⟨w1795, w1796⟩
theorem mvX12_writes : MV yX12_writes := ⟨w1866, w116⟩
theorem mvX12_writesDown : MV yX12_writesDown := ⟨w1687, w101⟩
theorem mvX1_foresee : MV yX1_foresee := ⟨w971, w972⟩
theorem mvX1_goOn : MV yX1_goOn := ⟨w975, w976⟩
theorem mvX1_hold : MV yX1_hold := ⟨w561, w562⟩
theorem mvX1_hourNow : MV yX1_hourNow := ⟨w565, w566⟩
theorem mvX1_join : MV yX1_join := ⟨w582, w3⟩
theorem mvX1_valueOf : MV yX1_valueOf := ⟨w574, w2⟩
theorem mvX2_bringBack : MV yX2_bringBack := ⟨w1179, w1180⟩
theorem mvX2_remember : MV yX2_remember := ⟨w1129, w1130⟩
theorem mvX3_add : MV yX3_add := ⟨w862, w27⟩
theorem mvX3_addAndAdvance : MV yX3_addAndAdvance := ⟨w842, w24⟩
theorem mvX3_comparisonStep : MV yX3_comparisonStep := ⟨w886, w33⟩
theorem mvX3_goIn : MV yX3_goIn := ⟨w856, w26⟩
theorem mvX3_productStep : MV yX3_productStep := ⟨w890, w34⟩
theorem mvX3_readBoth : MV yX3_readBoth := ⟨w874, w30⟩
theorem mvX3_readChoice : MV yX3_readChoice := ⟨w866, w28⟩
theorem mvX3_readComparison : MV yX3_readComparison := ⟨w882, w32⟩
theorem mvX3_readFact : MV yX3_readFact := ⟨w878, w31⟩
theorem mvX3_readGone : MV yX3_readGone := ⟨w897, w898⟩
theorem mvX3_readPair : MV yX3_readPair := ⟨w852, w25⟩
theorem mvX3_readPart : MV yX3_readPart := ⟨w838, w23⟩
theorem mvX3_readProduct : MV yX3_readProduct := ⟨w834, w22⟩
theorem mvX3_readSays : MV yX3_readSays := ⟨w825, w826⟩
theorem mvX3_readSum : MV yX3_readSum := ⟨w830, w21⟩
theorem mvX3_readTest : MV yX3_readTest := ⟨w870, w29⟩
theorem mvX3_sumStep : MV yX3_sumStep := ⟨w894, w35⟩
theorem mvX4_cornerHere : MV yX4_cornerHere := ⟨w801, w18⟩
theorem mvX4_newName : MV yX4_newName := ⟨w752, w14⟩
theorem mvX4_number : MV yX4_number := ⟨w781, w15⟩
theorem mvX4_read : MV yX4_read := ⟨w688, w689⟩
theorem mvX4_readCorner : MV yX4_readCorner := ⟨w789, w16⟩
theorem mvX4_readDoing : MV yX4_readDoing := ⟨w817, w20⟩
theorem mvX4_readPalm : MV yX4_readPalm := ⟨w813, w19⟩
theorem mvX4_readPass : MV yX4_readPass := ⟨w902, w36⟩
theorem mvX4_readRoad : MV yX4_readRoad := ⟨w797, w17⟩
theorem mvX4_readStatement : MV yX4_readStatement := ⟨w735, w11⟩
theorem mvX4_readThing : MV yX4_readThing := ⟨w748, w13⟩
theorem mvX4_skipFirst : MV yX4_skipFirst := ⟨w739, w12⟩
theorem mvX5_isAbout : MV yX5_isAbout := ⟨w1103, w1104⟩
theorem mvX5_isSo : MV yX5_isSo := ⟨w1107, w1108⟩
theorem mvX5_mostLeft : MV yX5_mostLeft := ⟨w1120, w1121⟩
theorem mvX5_noteHours : MV yX5_noteHours := ⟨w1111, w1112⟩
theorem mvX5_read : MV yX5_read := ⟨w1089, w1090⟩
theorem mvX6_begin : MV yX6_begin := ⟨w545, w546⟩
theorem mvX6_bringBack : MV yX6_bringBack := ⟨w1183, w1184⟩
theorem mvX6_countDone : MV yX6_countDone := ⟨w913, w914⟩
theorem mvX6_countEmpty : MV yX6_countEmpty := ⟨w917, w918⟩
theorem mvX6_doWhatIsDue : MV yX6_doWhatIsDue := ⟨w553, w554⟩
theorem mvX6_goOn : MV yX6_goOn := ⟨w1141, w1142⟩
theorem mvX6_imageSize : MV yX6_imageSize := ⟨w1204, w58⟩
theorem mvX6_isDue : MV yX6_isDue := ⟨w558, w1⟩
theorem mvX6_isImage : MV yX6_isImage := ⟨w1218, w1219⟩
theorem mvX6_keep : MV yX6_keep := ⟨w606, w4⟩
theorem mvX6_put : MV yX6_put := ⟨w549, w550⟩
theorem mvX6_readImage : MV yX6_readImage := ⟨w1229, w1230⟩
theorem mvX6_save : MV yX6_save := ⟨w1133, w1134⟩
theorem mvX6_writeImage : MV yX6_writeImage := ⟨w1199, w1200⟩
theorem mvX7_addNumber : MV yX7_addNumber := ⟨w676, w677⟩
theorem mvX7_at : MV yX7_at := ⟨w712, w713⟩
theorem mvX7_hasRoomFor : MV yX7_hasRoomFor := ⟨w668, w669⟩
theorem mvX7_pairAt : MV yX7_pairAt := ⟨w1222, w1223⟩
theorem mvX8_advance : MV yX8_advance := ⟨w700, w701⟩
theorem mvX8_begin : MV yX8_begin := ⟨w696, w697⟩
theorem mvX8_fail : MV yX8_fail := ⟨w742, w743⟩
theorem mvX8_failHere : MV yX8_failHere := ⟨w755, w756⟩
theorem mvX8_isWordOrNumber : MV yX8_isWordOrNumber := ⟨w705, w6⟩
theorem mvX8_kindOf : MV yX8_kindOf := ⟨w724, w9⟩
theorem mvX8_readNumber : MV yX8_readNumber := ⟨w731, w10⟩
theorem mvX8_readWord : MV yX8_readWord := ⟨w720, w8⟩
theorem mvX8_skip : MV yX8_skip := ⟨w775, w776⟩
theorem mvX8_skipBlanks : MV yX8_skipBlanks := ⟨w709, w7⟩
theorem mvX9_addCorner : MV yX9_addCorner := ⟨w792, w793⟩
theorem mvX9_addDoing : MV yX9_addDoing := ⟨w820, w821⟩
theorem mvX9_addRoad : MV yX9_addRoad := ⟨w808, w809⟩
theorem mvX9_addThing : MV yX9_addThing := ⟨w784, w785⟩
theorem mvX9_clear : MV yX9_clear := ⟨w692, w693⟩
theorem mvX9_findCorner : MV yX9_findCorner := ⟨w767, w768⟩
theorem mvX9_findDoing : MV yX9_findDoing := ⟨w771, w772⟩
theorem mvX9_findThing : MV yX9_findThing := ⟨w760, w761⟩
theorem mvX9_hasRoad : MV yX9_hasRoad := ⟨w804, w805⟩
theorem mvX9_isCorner : MV yX9_isCorner := ⟨w929, w930⟩
theorem mvX9_isDoing : MV yX9_isDoing := ⟨w933, w934⟩
theorem mvX9_isThing : MV yX9_isThing := ⟨w577, w578⟩
end
section
/-- a method of a JDK class that no row of the natives runs: its contract out of a walk -/
theorem mt_ofWF {l : Launch} {y : MethodName} {ws ws' : List Cond} {rm : Room} {Pc : Array Value → State → Prop} {Qc : Array Value → State → Outcome → State → Prop} {mc ms : Nat} {free : Addr → Prop} {cc : ByteArray} {maxL : Nat} {ret : Option FieldType}
    (hy : plainFor y = true) (hw : ws = Cond.code y cc maxL ret :: ws')
    (body : ∀ p e s m args below meth c s₁, BodyLoose p l y (headSpec ws rm) cc maxL ret e s m args below meth c s₁ → c.maxLocals = maxL → Pc args s →
      W p l e (headSpec ws rm).room s m args below meth c s.heap [] 0 0 (MQ below Qc args s mc ms free) (entryFrame m args maxL)) : Met l y ws rm Pc Qc mc ms free := by
  refine MetFree.of_bodySF (code := cc) (maxLocals := maxL) (ret := ret) hy ?_ ?_
  · intro args s m h hn
    obtain ⟨meth, c, h1, h2, h3, h4, h5, h6, -, -⟩ := Cond.code_spec hn (atoms_spec (ws := ws) h _ (by rw [hw]; exact List.mem_cons_self))
    exact ⟨meth, c, h1, h2, h3, h4, h5, h6⟩
  · intro p e s m args below meth c s₁ B hml hP _
    have hh0 : s₁.heap = s.heap := by rw [B.state]; rfl
    obtain ⟨t, a1, o, b1, b2, b3⟩ := body p e s m args below meth c s₁ B hml hP s₁ hh0 (Stand.of_body B)
    exact ⟨t, o, a1, b1, b2, ⟨b3.1, b3.2⟩⟩
theorem CT.mkF {l : Launch} {G : Lay} {D : va_G} {cy : Nat → ClassId} {ad : Nat → Nat} {d : Nat} {ρ : Type} {Qf : ρ → Array Value → State → Outcome → State → Prop} {M : Mem} {o : Option ρ} {y : MethodName} {bytes : ByteArray} {maxL : Nat} {rt2 : Option FieldType} {av : List Value} (hG : LOK G) (hI : Inj G ad) (hy : plainFor y = true) (hlen : (lg_sl av).length ≤ maxL) (body : ∀ {p : Program} {e : Env} {s : State} {m : MethodId} {args : Array Value} {below : List Frame} {meth : Method} {c : Code}, OKc p (rmL d) s m args meth c G D cy ad bytes y.cls maxL d rt2 → BL p l e (rmL d) s m args below meth c G D cy ad maxL Qf 0 (lv_args 0 av) [] M o) : CT l G D cy ad y bytes maxL rt2 d Qf av M o := fun r hr => by
  refine mt_ofWF (cc := bytes) (maxL := maxL) (ret := rt2) hy rfl ?_
  intro p e s m args below meth c s₁ B hml hv
  obtain ⟨rfl, hW, hK⟩ := hv
  have hts := atoms_spec (ws := .code y bytes maxL rt2 :: lw_g) B.pre
  have hown : s.vm.findClass y.cls = some m.cls := findClass_of_methodNamed B.named
  have hl := lv_entry av (n := maxL) hlen
  rw [lg_entry_eq]
  exact body ⟨B.exec, B.bytes, hml, hown, fun w hw => hts w (List.mem_cons_of_mem _ hw), hK, hI, B.notSynchronized, B.returns, rfl, hG⟩ r hr s.heap [] _ hW va_S.rf hl
end
section
section
variable {p : Program} {l : Launch} {e : Env} {s : State} {m : MethodId} {args : Array Value} {below : List Frame} {meth : Method} {c : Code} {D : va_G} {cy : Nat → ClassId} {ad : Nat → Nat} {dd : Nat}

/-! J9_floorDiv_7cf53 -/
def fJ9_floorDiv_7cf53 (n0 : Nat) (x0 : Int32) (x1 : Int32) (M : Mem) : Option (Int32 × Mem) :=
  if x1 = 0 then none else
  bnd (x0 / x1) fun x2_3 =>
  if 0 ≤ (x0 ^^^ x1) then
    some (x2_3, M)
  else
    if (x2_3 * x1) = x0 then
      some (x2_3, M)
    else
      some ((x2_3 - (1 : Int32)), M)
theorem tfJ9_floorDiv_7cf53 (n0 : Nat) (hO : OKc p (rmL 1) s m args meth c LX D cy ad cJ9_floorDiv_7cf53 RJ9 3 1 (some .int)) (x0 : Int32) (x1 : Int32) (M : Mem) : BL p l e (rmL 1) s m args below meth c LX D cy ad 3 (QI LX D cy ad) 0 [(0, .int x0), (1, .int x1)] [] M (fJ9_floorDiv_7cf53 n0 x0 x1 M) := by
  unfold fJ9_floorDiv_7cf53
  refine b_iload_n hO dJ9_floorDiv_7cf53_0 0 rfl rfl ?_
  refine b_iload_n hO dJ9_floorDiv_7cf53_1 1 rfl rfl ?_
  refine b_idiv hO dJ9_floorDiv_7cf53_2 ?_
  refine b_topI (fun x2_3 => ?_)
  refine b_istore_n hO dJ9_floorDiv_7cf53_3 rfl (by decide) (lv' := [(2, .int _), (0, .int _), (1, .int _)]) rfl ?_
  refine b_iload_n hO dJ9_floorDiv_7cf53_4 1 rfl rfl ?_
  refine b_iload_n hO dJ9_floorDiv_7cf53_5 2 rfl rfl ?_
  refine b_ixor hO dJ9_floorDiv_7cf53_6 ?_
  refine b_if_ge hO dJ9_floorDiv_7cf53_7 (tgt := 21) (by decide) ?_ ?_
  · refine b_iload_n hO dJ9_floorDiv_7cf53_21 0 rfl rfl ?_
    exact b_iret hO dJ9_floorDiv_7cf53_22
  · refine b_iload_n hO dJ9_floorDiv_7cf53_10 0 rfl rfl ?_
    refine b_iload_n hO dJ9_floorDiv_7cf53_11 2 rfl rfl ?_
    refine b_imul hO dJ9_floorDiv_7cf53_12 ?_
    refine b_iload_n hO dJ9_floorDiv_7cf53_13 1 rfl rfl ?_
    refine b_icmp_eq hO dJ9_floorDiv_7cf53_14 (tgt := 21) (by decide) ?_ ?_
    · refine b_iload_n hO dJ9_floorDiv_7cf53_21 0 rfl rfl ?_
      exact b_iret hO dJ9_floorDiv_7cf53_22
    · refine b_iload_n hO dJ9_floorDiv_7cf53_17 0 rfl rfl ?_
      refine b_iconst hO dJ9_floorDiv_7cf53_18 ic_i_1 ?_
      refine b_isub hO dJ9_floorDiv_7cf53_19 ?_
      exact b_iret hO dJ9_floorDiv_7cf53_20
theorem ctJ9_floorDiv_7cf53 (n0 : Nat) (hI : Inj LX ad) (x0 : Int32) (x1 : Int32) (M : Mem) : CT l LX D cy ad yJ9_floorDiv_7cf53 cJ9_floorDiv_7cf53 3 (some .int) 1 (QI LX D cy ad) [.int x0, .int x1] M (fJ9_floorDiv_7cf53 n0 x0 x1 M) :=
  CT.mkF LXok hI (by decide +kernel) (Nat.le_of_ble_eq_true rfl) (fun hO => tfJ9_floorDiv_7cf53 n0 hO x0 x1 M)
/-! J9_floorMod_7cf53 -/
def fJ9_floorMod_7cf53 (n0 : Nat) (x0 : Int32) (x1 : Int32) (M : Mem) : Option (Int32 × Mem) :=
  if x1 = 0 then none else
  bnd (rem32 x0 x1) fun x2_3 =>
  if 0 ≤ (x0 ^^^ x1) then
    some (x2_3, M)
  else
    if x2_3 = 0 then
      some (x2_3, M)
    else
      some ((x2_3 + x1), M)
theorem tfJ9_floorMod_7cf53 (n0 : Nat) (hO : OKc p (rmL 1) s m args meth c LX D cy ad cJ9_floorMod_7cf53 RJ9 3 1 (some .int)) (x0 : Int32) (x1 : Int32) (M : Mem) : BL p l e (rmL 1) s m args below meth c LX D cy ad 3 (QI LX D cy ad) 0 [(0, .int x0), (1, .int x1)] [] M (fJ9_floorMod_7cf53 n0 x0 x1 M) := by
  unfold fJ9_floorMod_7cf53
  refine b_iload_n hO dJ9_floorMod_7cf53_0 0 rfl rfl ?_
  refine b_iload_n hO dJ9_floorMod_7cf53_1 1 rfl rfl ?_
  refine b_irem hO dJ9_floorMod_7cf53_2 ?_
  refine b_topI (fun x2_3 => ?_)
  refine b_istore_n hO dJ9_floorMod_7cf53_3 rfl (by decide) (lv' := [(2, .int _), (0, .int _), (1, .int _)]) rfl ?_
  refine b_iload_n hO dJ9_floorMod_7cf53_4 1 rfl rfl ?_
  refine b_iload_n hO dJ9_floorMod_7cf53_5 2 rfl rfl ?_
  refine b_ixor hO dJ9_floorMod_7cf53_6 ?_
  refine b_if_ge hO dJ9_floorMod_7cf53_7 (tgt := 18) (by decide) ?_ ?_
  · refine b_iload_n hO dJ9_floorMod_7cf53_18 0 rfl rfl ?_
    exact b_iret hO dJ9_floorMod_7cf53_19
  · refine b_iload_n hO dJ9_floorMod_7cf53_10 0 rfl rfl ?_
    refine b_if_eq hO dJ9_floorMod_7cf53_11 (tgt := 18) (by decide) ?_ ?_
    · refine b_iload_n hO dJ9_floorMod_7cf53_18 0 rfl rfl ?_
      exact b_iret hO dJ9_floorMod_7cf53_19
    · refine b_iload_n hO dJ9_floorMod_7cf53_14 0 rfl rfl ?_
      refine b_iload_n hO dJ9_floorMod_7cf53_15 2 rfl rfl ?_
      refine b_iadd hO dJ9_floorMod_7cf53_16 ?_
      exact b_iret hO dJ9_floorMod_7cf53_17
theorem ctJ9_floorMod_7cf53 (n0 : Nat) (hI : Inj LX ad) (x0 : Int32) (x1 : Int32) (M : Mem) : CT l LX D cy ad yJ9_floorMod_7cf53 cJ9_floorMod_7cf53 3 (some .int) 1 (QI LX D cy ad) [.int x0, .int x1] M (fJ9_floorMod_7cf53 n0 x0 x1 M) :=
  CT.mkF LXok hI (by decide +kernel) (Nat.le_of_ble_eq_true rfl) (fun hO => tfJ9_floorMod_7cf53 n0 hO x0 x1 M)
end
end
section
section
variable {p : Program} {l : Launch} {e : Env} {s : State} {m : MethodId} {args : Array Value} {below : List Frame} {meth : Method} {c : Code} {D : va_G} {cy : Nat → ClassId} {ad : Nat → Nat} {dd : Nat}

/-! X0_isTold -/
def fX0_isTold (n0 : Nat) (q0 : Nat) (M : Mem) : Option (Int32 × Mem) :=
  if (gI M (128 * q0 + 1)) ≤ 0 then
    some ((0 : Int32), M)
  else
    some ((1 : Int32), M)
theorem tfX0_isTold (n0 : Nat) (q0 : Nat) (hq0 : isK LX q0 0) (hO : OKc p (rmL 1) s m args meth c LX D cy ad cX0_isTold RX0 1 1 (some .boolean)) (M : Mem) : BL p l e (rmL 1) s m args below meth c LX D cy ad 1 (QI LX D cy ad) 0 [(0, .ref (ad q0))] [] M (fX0_isTold n0 q0 M) := by
  unfold fX0_isTold
  refine b_aload_n hO dX0_isTold_0 0 rfl rfl ?_
  refine b_get hO flX0_15 hq0 (v := .int (gI _ (128 * q0 + 1))) rfl dX0_isTold_1 ?_
  refine b_if_le hO dX0_isTold_4 (tgt := 11) (by decide) ?_ ?_
  · refine b_iconst hO dX0_isTold_11 ic_i_0 ?_
    exact b_zretc hO (Or.inl rfl) dX0_isTold_12
  · refine b_iconst hO dX0_isTold_7 ic_i_1 ?_
    refine b_goto hO dX0_isTold_8 (tgt := 12) (by decide) ?_
    exact b_zretc hO (Or.inr rfl) dX0_isTold_12
theorem ctX0_isTold (n0 : Nat) (q0 : Nat) (hq0 : isK LX q0 0) (hI : Inj LX ad) (M : Mem) : CT l LX D cy ad yX0_isTold cX0_isTold 1 (some .boolean) 1 (QI LX D cy ad) [.ref (ad q0)] M (fX0_isTold n0 q0 M) :=
  CT.mk LXok hI (by decide) (Nat.le_of_ble_eq_true rfl) (fun hO => tfX0_isTold n0 q0 hq0 hO M)
/-! X0_add -/
def fX0_add (n0 : Nat) (q0 : Nat) (x1 : Int32) (M : Mem) : Option (Mem) :=
  if (1600 : Int32) ≤ (gI M (128 * q0 + 1)) then
    some M
  else
    if oob (gI M (128 * q0 + 1)) 1600 then none else
    bnd (sA M (q0 + 1) (Int32.toNatClampNeg (gI M (128 * q0 + 1))) x1) fun M19 =>
    some (sI M19 (128 * q0 + 1) ((gI M19 (128 * q0 + 1)) + (1 : Int32)))
theorem tfX0_add (n0 : Nat) (q0 : Nat) (hq0 : isK LX q0 0) (hO : OKc p (rmL 1) s m args meth c LX D cy ad cX0_add RX0 2 1 none) (x1 : Int32) (M : Mem) : BL p l e (rmL 1) s m args below meth c LX D cy ad 2 (QV LX D cy ad) 0 [(0, .ref (ad q0)), (1, .int x1)] [] M (fX0_add n0 q0 x1 M) := by
  unfold fX0_add
  refine b_aload_n hO dX0_add_0 0 rfl rfl ?_
  refine b_get hO flX0_15 hq0 (v := .int (gI _ (128 * q0 + 1))) rfl dX0_add_1 ?_
  refine b_sipush hO dX0_add_4 ic_s_1600 ?_
  refine b_icmp_ge hO dX0_add_7 (tgt := 30) (by decide) ?_ ?_
  · exact b_vret hO dX0_add_30
  · refine b_aload_n hO dX0_add_10 0 rfl rfl ?_
    refine b_get hO flX0_9 hq0 (v := .ref (ad (q0 + 1))) rfl dX0_add_11 ?_
    refine b_aload_n hO dX0_add_14 0 rfl rfl ?_
    refine b_get hO flX0_15 hq0 (v := .int (gI _ (128 * q0 + 1))) rfl dX0_add_15 ?_
    refine b_iload_n hO dX0_add_18 1 rfl rfl ?_
    refine b_iast hO (kt_0_1 hq0) (n := 1600) (lt_0_1 hq0) dX0_add_19 ?_
    refine b_bnd (fun M19 => ?_)
    refine b_aload_n hO dX0_add_20 0 rfl rfl ?_
    refine b_dup hO dX0_add_21 rfl ?_
    refine b_get hO flX0_15 hq0 (v := .int (gI _ (128 * q0 + 1))) rfl dX0_add_22 ?_
    refine b_iconst hO dX0_add_25 ic_i_1 ?_
    refine b_iadd hO dX0_add_26 ?_
    refine b_putI hO flX0_15 hq0 rfl rfl rfl (id := (128 * q0 + 1)) rfl dX0_add_27 ?_
    exact b_vret hO dX0_add_30
theorem ctX0_add (n0 : Nat) (q0 : Nat) (hq0 : isK LX q0 0) (hI : Inj LX ad) (x1 : Int32) (M : Mem) : CT l LX D cy ad yX0_add cX0_add 2 none 1 (QV LX D cy ad) [.ref (ad q0), .int x1] M (fX0_add n0 q0 x1 M) :=
  CT.mk LXok hI (by decide) (Nat.le_of_ble_eq_true rfl) (fun hO => tfX0_add n0 q0 hq0 hO x1 M)
end
end
section
section
variable {p : Program} {l : Launch} {e : Env} {s : State} {m : MethodId} {args : Array Value} {below : List Frame} {meth : Method} {c : Code} {D : va_G} {cy : Nat → ClassId} {ad : Nat → Nat} {dd : Nat}

/-! X7_hasRoomFor -/
def fX7_hasRoomFor (n0 : Nat) (x1 : Int32) (M : Mem) : Option (Int32 × Mem) :=
  if (1600 : Int32) < ((gI M 641) + x1) then
    some ((0 : Int32), M)
  else
    some ((1 : Int32), M)
theorem tfX7_hasRoomFor (n0 : Nat) (hO : OKc p (rmL 1) s m args meth c LX D cy ad cX7_hasRoomFor RX7 2 1 (some .boolean)) (x1 : Int32) (M : Mem) : BL p l e (rmL 1) s m args below meth c LX D cy ad 2 (QI LX D cy ad) 0 [(0, .ref (ad 5)), (1, .int x1)] [] M (fX7_hasRoomFor n0 x1 M) := by
  unfold fX7_hasRoomFor
  refine b_aload_n hO dX7_hasRoomFor_0 0 rfl rfl ?_
  refine b_get hO flX7_15 kLX_5 (v := .int (gI _ 641)) rfl dX7_hasRoomFor_1 ?_
  refine b_iload_n hO dX7_hasRoomFor_4 1 rfl rfl ?_
  refine b_iadd hO dX7_hasRoomFor_5 ?_
  refine b_sipush hO dX7_hasRoomFor_6 ic_s_1600 ?_
  refine b_icmp_gt hO dX7_hasRoomFor_9 (tgt := 16) (by decide) ?_ ?_
  · refine b_iconst hO dX7_hasRoomFor_16 ic_i_0 ?_
    exact b_zretc hO (Or.inl rfl) dX7_hasRoomFor_17
  · refine b_iconst hO dX7_hasRoomFor_12 ic_i_1 ?_
    refine b_goto hO dX7_hasRoomFor_13 (tgt := 17) (by decide) ?_
    exact b_zretc hO (Or.inr rfl) dX7_hasRoomFor_17
theorem ctX7_hasRoomFor (n0 : Nat) (hI : Inj LX ad) (x1 : Int32) (M : Mem) : CT l LX D cy ad yX7_hasRoomFor cX7_hasRoomFor 2 (some .boolean) 1 (QI LX D cy ad) [.ref (ad 5), .int x1] M (fX7_hasRoomFor n0 x1 M) :=
  CT.mk LXok hI (by decide) (Nat.le_of_ble_eq_true rfl) (fun hO => tfX7_hasRoomFor n0 hO x1 M)
/-! X7_addNumber -/
def fX7_addNumber_43 (n0 : Nat) (k3 : Int32 → Int32 → Mem → Option (Mem)) (x1 : Int32) (x2 : Int32) (M : Mem) : Option (Mem) :=
  k3 x1 (x2 + (-8 : Int32)) M
def bX7_addNumber_3 (n0 : Nat) (k3 : Int32 → Int32 → Mem → Option (Mem)) (x1 : Int32) (x2 : Int32) (M : Mem) : Option (Mem) :=
  if x2 < 0 then
    some M
  else
    if (1600 : Int32) ≤ (gI M 641) then
      fX7_addNumber_43 n0 k3 x1 x2 M
    else
      if oob (gI M 641) 1600 then none else
      bnd (sA M 6 (Int32.toNatClampNeg (gI M 641)) ((x1 >>> (x2 &&& 31)) &&& (255 : Int32))) fun M32 =>
      fX7_addNumber_43 n0 k3 x1 x2 (sI M32 641 ((gI M32 641) + (1 : Int32)))
def fX7_addNumber_3 (n0 : Nat) : Int32 → Int32 → Mem → Option (Mem) := loopN (bX7_addNumber_3 n0) (fun _ _ _ => none) n0
def fX7_addNumber (n0 : Nat) (x1 : Int32) (M : Mem) : Option (Mem) :=
  fX7_addNumber_3 n0 x1 (24 : Int32) M
theorem tfX7_addNumber_43 (n0 : Nat) (hO : OKc p (rmL 1) s m args meth c LX D cy ad cX7_addNumber RX7 3 1 none) (k3 : Int32 → Int32 → Mem → Option (Mem)) (hk3 : ∀ (x1 : Int32) (x2 : Int32) (M : Mem), BL p l e (rmL 1) s m args below meth c LX D cy ad 3 (QV LX D cy ad) 3 [(0, .ref (ad 5)), (1, .int x1), (2, .int x2)] [] M (k3 x1 x2 M)) (x1 : Int32) (x2 : Int32) (M : Mem) : BL p l e (rmL 1) s m args below meth c LX D cy ad 3 (QV LX D cy ad) 43 [(0, .ref (ad 5)), (1, .int x1), (2, .int x2)] [] M (fX7_addNumber_43 n0 k3 x1 x2 M) := by
  unfold fX7_addNumber_43
  refine b_iinc hO dX7_addNumber_43 2 rfl ic_i_m8 (by decide) (lv' := [(2, .int _), (0, .ref _), (1, .int _)]) rfl ?_
  refine b_goto hO dX7_addNumber_46 (tgt := 3) (by decide) ?_
  refine b_sub [1, 2, 0] rfl ?_
  exact hk3 _ _ _
theorem tbX7_addNumber_3 (n0 : Nat) (hO : OKc p (rmL 1) s m args meth c LX D cy ad cX7_addNumber RX7 3 1 none) (k3 : Int32 → Int32 → Mem → Option (Mem)) (hk3 : ∀ (x1 : Int32) (x2 : Int32) (M : Mem), BL p l e (rmL 1) s m args below meth c LX D cy ad 3 (QV LX D cy ad) 3 [(0, .ref (ad 5)), (1, .int x1), (2, .int x2)] [] M (k3 x1 x2 M)) (x1 : Int32) (x2 : Int32) (M : Mem) : BL p l e (rmL 1) s m args below meth c LX D cy ad 3 (QV LX D cy ad) 3 [(0, .ref (ad 5)), (1, .int x1), (2, .int x2)] [] M (bX7_addNumber_3 n0 k3 x1 x2 M) := by
  unfold bX7_addNumber_3
  refine b_iload_n hO dX7_addNumber_3 2 rfl rfl ?_
  refine b_if_lt hO dX7_addNumber_4 (tgt := 49) (by decide) ?_ ?_
  · exact b_vret hO dX7_addNumber_49
  · refine b_aload_n hO dX7_addNumber_7 0 rfl rfl ?_
    refine b_get hO flX7_15 kLX_5 (v := .int (gI _ 641)) rfl dX7_addNumber_8 ?_
    refine b_sipush hO dX7_addNumber_11 ic_s_1600 ?_
    refine b_icmp_ge hO dX7_addNumber_14 (tgt := 43) (by decide) ?_ ?_
    · exact tfX7_addNumber_43 n0 hO k3 hk3 _ _ _
    · refine b_aload_n hO dX7_addNumber_17 0 rfl rfl ?_
      refine b_get hO flX7_9 kLX_5 (v := .ref (ad 6)) rfl dX7_addNumber_18 ?_
      refine b_aload_n hO dX7_addNumber_21 0 rfl rfl ?_
      refine b_get hO flX7_15 kLX_5 (v := .int (gI _ 641)) rfl dX7_addNumber_22 ?_
      refine b_iload_n hO dX7_addNumber_25 1 rfl rfl ?_
      refine b_iload_n hO dX7_addNumber_26 2 rfl rfl ?_
      refine b_ishr hO dX7_addNumber_27 ?_
      refine b_sipush hO dX7_addNumber_28 ic_s_255 ?_
      refine b_iand hO dX7_addNumber_31 ?_
      refine b_iast hO kLX_6 (n := 1600) rfl dX7_addNumber_32 ?_
      refine b_bnd (fun M32 => ?_)
      refine b_aload_n hO dX7_addNumber_33 0 rfl rfl ?_
      refine b_dup hO dX7_addNumber_34 rfl ?_
      refine b_get hO flX7_15 kLX_5 (v := .int (gI _ 641)) rfl dX7_addNumber_35 ?_
      refine b_iconst hO dX7_addNumber_38 ic_i_1 ?_
      refine b_iadd hO dX7_addNumber_39 ?_
      refine b_putI hO flX7_15 kLX_5 rfl rfl rfl (id := 641) rfl dX7_addNumber_40 ?_
      exact tfX7_addNumber_43 n0 hO k3 hk3 _ _ _
theorem lX7_addNumber_3 (n0 : Nat) (hO : OKc p (rmL 1) s m args meth c LX D cy ad cX7_addNumber RX7 3 1 none) : ∀ (w : Nat) (x1 : Int32) (x2 : Int32) (M : Mem), BL p l e (rmL 1) s m args below meth c LX D cy ad 3 (QV LX D cy ad) 3 [(0, .ref (ad 5)), (1, .int x1), (2, .int x2)] [] M (loopN (bX7_addNumber_3 n0) (fun _ _ _ => none) w x1 x2 M) := by
  intro w
  induction w with
  | zero =>
    intros
    exact b_none
  | succ w ih =>
    intro x1 x2 M
    exact tbX7_addNumber_3 n0 hO _ ih x1 x2 M
theorem tfX7_addNumber_3 (n0 : Nat) (hO : OKc p (rmL 1) s m args meth c LX D cy ad cX7_addNumber RX7 3 1 none) (x1 : Int32) (x2 : Int32) (M : Mem) : BL p l e (rmL 1) s m args below meth c LX D cy ad 3 (QV LX D cy ad) 3 [(0, .ref (ad 5)), (1, .int x1), (2, .int x2)] [] M (fX7_addNumber_3 n0 x1 x2 M) := lX7_addNumber_3 n0 hO n0 x1 x2 M
theorem tfX7_addNumber (n0 : Nat) (hO : OKc p (rmL 1) s m args meth c LX D cy ad cX7_addNumber RX7 3 1 none) (x1 : Int32) (M : Mem) : BL p l e (rmL 1) s m args below meth c LX D cy ad 3 (QV LX D cy ad) 0 [(0, .ref (ad 5)), (1, .int x1)] [] M (fX7_addNumber n0 x1 M) := by
  unfold fX7_addNumber
  refine b_bipush hO dX7_addNumber_0 ic_b_24 ?_
  refine b_istore_n hO dX7_addNumber_2 rfl (by decide) (lv' := [(2, .int _), (0, .ref _), (1, .int _)]) rfl ?_
  refine b_sub [1, 2, 0] rfl ?_
  exact tfX7_addNumber_3 n0 hO _ _ _
theorem ctX7_addNumber (n0 : Nat) (hI : Inj LX ad) (x1 : Int32) (M : Mem) : CT l LX D cy ad yX7_addNumber cX7_addNumber 3 none 1 (QV LX D cy ad) [.ref (ad 5), .int x1] M (fX7_addNumber n0 x1 M) :=
  CT.mk LXok hI (by decide) (Nat.le_of_ble_eq_true rfl) (fun hO => tfX7_addNumber n0 hO x1 M)
/-! X7_at -/
def fX7_at (n0 : Nat) (x1 : Int32) (M : Mem) : Option (Int32 × Mem) :=
  if x1 < 0 then
    some ((-1 : Int32), M)
  else
    if (gI M 641) ≤ x1 then
      some ((-1 : Int32), M)
    else
      if oob x1 1600 then none else
      some ((gA M 6 (Int32.toNatClampNeg x1)), M)
theorem tfX7_at (n0 : Nat) (hO : OKc p (rmL 1) s m args meth c LX D cy ad cX7_at RX7 2 1 (some .int)) (x1 : Int32) (M : Mem) : BL p l e (rmL 1) s m args below meth c LX D cy ad 2 (QI LX D cy ad) 0 [(0, .ref (ad 5)), (1, .int x1)] [] M (fX7_at n0 x1 M) := by
  unfold fX7_at
  refine b_iload_n hO dX7_at_0 1 rfl rfl ?_
  refine b_if_lt hO dX7_at_1 (tgt := 21) (by decide) ?_ ?_
  · refine b_iconst hO dX7_at_21 ic_i_m1 ?_
    exact b_iret hO dX7_at_22
  · refine b_iload_n hO dX7_at_4 1 rfl rfl ?_
    refine b_aload_n hO dX7_at_5 0 rfl rfl ?_
    refine b_get hO flX7_15 kLX_5 (v := .int (gI _ 641)) rfl dX7_at_6 ?_
    refine b_icmp_ge hO dX7_at_9 (tgt := 21) (by decide) ?_ ?_
    · refine b_iconst hO dX7_at_21 ic_i_m1 ?_
      exact b_iret hO dX7_at_22
    · refine b_aload_n hO dX7_at_12 0 rfl rfl ?_
      refine b_get hO flX7_9 kLX_5 (v := .ref (ad 6)) rfl dX7_at_13 ?_
      refine b_iload_n hO dX7_at_16 1 rfl rfl ?_
      refine b_iald hO kLX_6 (n := 1600) rfl dX7_at_17 ?_
      refine b_goto hO dX7_at_18 (tgt := 22) (by decide) ?_
      exact b_iret hO dX7_at_22
theorem ctX7_at (n0 : Nat) (hI : Inj LX ad) (x1 : Int32) (M : Mem) : CT l LX D cy ad yX7_at cX7_at 2 (some .int) 1 (QI LX D cy ad) [.ref (ad 5), .int x1] M (fX7_at n0 x1 M) :=
  CT.mk LXok hI (by decide) (Nat.le_of_ble_eq_true rfl) (fun hO => tfX7_at n0 hO x1 M)
/-! X7_pairAt -/
def fX7_pairAt (n0 : Nat) (x1 : Int32) (M : Mem) : Option (Int32 × Mem) :=
  (fX7_at n0 x1 M).bind fun z5 =>
  (fX7_at n0 (x1 + (1 : Int32)) z5.2).bind fun z13 =>
  some ((((256 : Int32) * z5.1) + z13.1), z13.2)
theorem tfX7_pairAt (n0 : Nat) (hO : OKc p (rmL 2) s m args meth c LX D cy ad cX7_pairAt RX7 2 2 (some .int)) (x1 : Int32) (M : Mem) : BL p l e (rmL 2) s m args below meth c LX D cy ad 2 (QI LX D cy ad) 0 [(0, .ref (ad 5)), (1, .int x1)] [] M (fX7_pairAt n0 x1 M) := by
  unfold fX7_pairAt
  refine b_sipush hO dX7_pairAt_0 ic_s_256 ?_
  refine b_aload_n hO dX7_pairAt_3 0 rfl rfl ?_
  refine b_iload_n hO dX7_pairAt_4 1 rfl rfl ?_
  refine b_callVI hO mdX7_at mvX7_at w1225 (ci := 7) rfl rfl (by decide) kLX_5 (As := [.int _]) (st := [.int _]) (ctX7_at n0 hO.2.2.2.2.2.2.1 _ _) (Nat.le_of_ble_eq_true rfl) rfl rfl (Nat.le_of_ble_eq_true rfl) dX7_pairAt_5 (fun z5 => ?_)
  refine b_imul hO dX7_pairAt_8 ?_
  refine b_aload_n hO dX7_pairAt_9 0 rfl rfl ?_
  refine b_iload_n hO dX7_pairAt_10 1 rfl rfl ?_
  refine b_iconst hO dX7_pairAt_11 ic_i_1 ?_
  refine b_iadd hO dX7_pairAt_12 ?_
  refine b_callVI hO mdX7_at mvX7_at w1225 (ci := 7) rfl rfl (by decide) kLX_5 (As := [.int _]) (st := [.int _]) (ctX7_at n0 hO.2.2.2.2.2.2.1 _ _) (Nat.le_of_ble_eq_true rfl) rfl rfl (Nat.le_of_ble_eq_true rfl) dX7_pairAt_13 (fun z13 => ?_)
  refine b_iadd hO dX7_pairAt_16 ?_
  exact b_iret hO dX7_pairAt_17
theorem ctX7_pairAt (n0 : Nat) (hI : Inj LX ad) (x1 : Int32) (M : Mem) : CT l LX D cy ad yX7_pairAt cX7_pairAt 2 (some .int) 2 (QI LX D cy ad) [.ref (ad 5), .int x1] M (fX7_pairAt n0 x1 M) :=
  CT.mk LXok hI (by decide) (Nat.le_of_ble_eq_true rfl) (fun hO => tfX7_pairAt n0 hO x1 M)
end
end
