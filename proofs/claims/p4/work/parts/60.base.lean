/-! THE PURE PART, BASE: functions over memories that come to an end; reads behind writes; frames; numbers -/
def okP {ρ : Type} (o : Option ρ) (Q : ρ → Prop) : Prop := ∃ r, o = some r ∧ Q r
theorem okP_some {ρ : Type} {r : ρ} {Q : ρ → Prop} (h : Q r) : okP (some r) Q := ⟨r, rfl, h⟩
theorem okP_is {ρ : Type} {o : Option ρ} {r : ρ} {Q : ρ → Prop} (e : o = some r) (h : Q r) : okP o Q := ⟨r, e, h⟩
theorem okP_ite {ρ : Type} {c : Prop} [Decidable c] {a b : Option ρ} {Q : ρ → Prop} (h1 : c → okP a Q) (h2 : ¬ c → okP b Q) : okP (if c then a else b) Q := by
  by_cases h : c
  · rw [if_pos h]; exact h1 h
  · rw [if_neg h]; exact h2 h
theorem okP_t {ρ : Type} {c : Prop} [Decidable c] {a b : Option ρ} {Q : ρ → Prop} (h : c) (h1 : okP a Q) : okP (if c then a else b) Q := by rw [if_pos h]; exact h1
theorem okP_f {ρ : Type} {c : Prop} [Decidable c] {a b : Option ρ} {Q : ρ → Prop} (h : ¬ c) (h1 : okP b Q) : okP (if c then a else b) Q := by rw [if_neg h]; exact h1
theorem okP_bind {α β : Type} {o : Option α} {k : α → Option β} {P : α → Prop} {Q : β → Prop} (h : okP o P) (hk : ∀ z, P z → okP (k z) Q) : okP (o.bind k) Q := by
  obtain ⟨z, rfl, hz⟩ := h
  exact hk z hz
theorem okP_be {α β : Type} {o : Option α} {k : α → Option β} {z : α} {Q : β → Prop} (e : o = some z) (h : okP (k z) Q) : okP (o.bind k) Q := by rw [e]; exact h
theorem okP_bnd {α ρ : Type} {v : α} {k : α → Option ρ} {Q : ρ → Prop} (h : okP (k v) Q) : okP (bnd v k) Q := h
theorem okP_mono {ρ : Type} {o : Option ρ} {P Q : ρ → Prop} (h : okP o P) (hq : ∀ r, P r → Q r) : okP o Q := by
  obtain ⟨r, e, h⟩ := h
  exact ⟨r, e, hq r h⟩
/-- an answer 0 or 1 -/
def bI (p : Prop) [Decidable p] : Int32 := if p then 1 else 0
theorem i10 : ¬ (1 : Int32) = 0 := by decide
theorem bI_t {p : Prop} [Decidable p] (h : p) : bI p = 1 := if_pos h
theorem bI_f {p : Prop} [Decidable p] (h : ¬ p) : bI p = 0 := if_neg h
theorem bI_0 {p : Prop} [Decidable p] : bI p = 0 ↔ ¬ p := by
  unfold bI
  by_cases h : p
  · rw [if_pos h]; exact ⟨fun e => absurd e i10, fun e => absurd h e⟩
  · rw [if_neg h]; exact ⟨fun _ => h, fun _ => rfl⟩
theorem bI_01 {p : Prop} [Decidable p] : bI p = 0 ∨ bI p = 1 := by
  unfold bI
  by_cases h : p
  · rw [if_pos h]; exact Or.inr rfl
  · rw [if_neg h]; exact Or.inl rfl
-- reads behind writes
theorem gI_sA {M : Mem} {a i k : Nat} {v : Int32} : gI (sA M a i v) k = gI M k := rfl
theorem gI_sR {M : Mem} {j k v : Nat} : gI (sR M j v) k = gI M k := rfl
theorem gI_sL {M : Mem} {j k : Nat} {v : Int64} : gI (sL M j v) k = gI M k := rfl
theorem gI_sB {M : Mem} {a i k : Nat} {v : Int64} : gI (sB M a i v) k = gI M k := rfl
theorem gI_sF {M : Mem} {a k : Nat} {f : Nat → Int32} : gI (sF M a f) k = gI M k := rfl
theorem gA_sI {M : Mem} {k a : Nat} {v : Int32} : gA (sI M k v) a = gA M a := rfl
theorem gA_sR {M : Mem} {k a v : Nat} : gA (sR M k v) a = gA M a := rfl
theorem gA_sL {M : Mem} {k a : Nat} {v : Int64} : gA (sL M k v) a = gA M a := rfl
theorem gA_sB {M : Mem} {a i b : Nat} {v : Int64} : gA (sB M b i v) a = gA M a := rfl
theorem gR_sI {M : Mem} {k j : Nat} {v : Int32} : gR (sI M k v) j = gR M j := rfl
theorem gR_sA {M : Mem} {a i j : Nat} {v : Int32} : gR (sA M a i v) j = gR M j := rfl
theorem gR_sL {M : Mem} {k j : Nat} {v : Int64} : gR (sL M k v) j = gR M j := rfl
theorem gR_sB {M : Mem} {a i j : Nat} {v : Int64} : gR (sB M a i v) j = gR M j := rfl
theorem gR_sF {M : Mem} {a j : Nat} {f : Nat → Int32} : gR (sF M a f) j = gR M j := rfl
theorem gL_sI {M : Mem} {k j : Nat} {v : Int32} : gL (sI M k v) j = gL M j := rfl
theorem gL_sA {M : Mem} {a i j : Nat} {v : Int32} : gL (sA M a i v) j = gL M j := rfl
theorem gL_sB {M : Mem} {a i j : Nat} {v : Int64} : gL (sB M a i v) j = gL M j := rfl
theorem gB_sI {M : Mem} {k a : Nat} {v : Int32} : gB (sI M k v) a = gB M a := rfl
theorem gB_sA {M : Mem} {b i a : Nat} {v : Int32} : gB (sA M b i v) a = gB M a := rfl
theorem gB_sL {M : Mem} {k a : Nat} {v : Int64} : gB (sL M k v) a = gB M a := rfl
theorem gI_at {M : Mem} {k : Nat} {v : Int32} : gI (sI M k v) k = v := by rw [gI_sI, if_pos rfl]
theorem gI_ne {M : Mem} {k j : Nat} {v : Int32} (h : j ≠ k) : gI (sI M k v) j = gI M j := by rw [gI_sI, if_neg h]
theorem sI_same {M : Mem} {k : Nat} {v : Int32} (h : gI M k = v) : sI M k v = M := by
  subst h
  obtain ⟨a, b⟩ := M
  show (upd a k (a k), b) = (a, b)
  congr 1
  funext j
  unfold upd
  by_cases e : j = k
  · rw [if_pos e, e]
  · rw [if_neg e]
theorem sI_sI {M : Mem} {k : Nat} {v u : Int32} : sI (sI M k u) k v = sI M k v := by
  obtain ⟨a, b⟩ := M
  show (upd (upd a k u) k v, b) = (upd a k v, b)
  congr 1
  funext j
  unfold upd
  by_cases e : j = k
  · rw [if_pos e, if_pos e]
  · rw [if_neg e, if_neg e, if_neg e]
/-- what may be other than before: ints by number, arrays by place, longs by number, arrays of longs by place -/
def Frm (I A L B : Nat → Prop) (M M' : Mem) : Prop := (∀ k, ¬ I k → gI M' k = gI M k) ∧ (∀ a, ¬ A a → gA M' a = gA M a) ∧ (∀ k, gR M' k = gR M k) ∧ (∀ k, ¬ L k → gL M' k = gL M k) ∧ ∀ a, ¬ B a → gB M' a = gB M a
def noN : Nat → Prop := fun _ => False
theorem Frm.r {I A L B : Nat → Prop} {M : Mem} : Frm I A L B M M := ⟨fun _ _ => rfl, fun _ _ => rfl, fun _ => rfl, fun _ _ => rfl, fun _ _ => rfl⟩
theorem Frm.tr {I A L B : Nat → Prop} {M M' M2 : Mem} (h : Frm I A L B M M') (h2 : Frm I A L B M' M2) : Frm I A L B M M2 :=
  ⟨fun k hk => (h2.1 k hk).trans (h.1 k hk), fun k hk => (h2.2.1 k hk).trans (h.2.1 k hk), fun k => (h2.2.2.1 k).trans (h.2.2.1 k), fun k hk => (h2.2.2.2.1 k hk).trans (h.2.2.2.1 k hk), fun k hk => (h2.2.2.2.2 k hk).trans (h.2.2.2.2 k hk)⟩
theorem Frm.wk {I A L B I' A' L' B' : Nat → Prop} {M M' : Mem} (h : Frm I A L B M M') (h1 : ∀ k, I k → I' k) (h2 : ∀ k, A k → A' k) (h3 : ∀ k, L k → L' k) (h4 : ∀ k, B k → B' k) : Frm I' A' L' B' M M' :=
  ⟨fun k hk => h.1 k (fun q => hk (h1 k q)), fun k hk => h.2.1 k (fun q => hk (h2 k q)), h.2.2.1, fun k hk => h.2.2.2.1 k (fun q => hk (h3 k q)), fun k hk => h.2.2.2.2 k (fun q => hk (h4 k q))⟩
theorem Frm.sI {I A L B : Nat → Prop} {M M' : Mem} {k : Nat} {v : Int32} (h : Frm I A L B M M') (hk : I k) : Frm I A L B M (sI M' k v) :=
  ⟨fun j hj => by rw [gI_sI, if_neg (show ¬ j = k from fun e => hj (by rw [e]; exact hk))]; exact h.1 j hj, h.2.1, h.2.2.1, h.2.2.2.1, h.2.2.2.2⟩
theorem Frm.sA {I A L B : Nat → Prop} {M M' : Mem} {a i : Nat} {v : Int32} (h : Frm I A L B M M') (hk : A a) : Frm I A L B M (sA M' a i v) :=
  ⟨h.1, fun j hj => by rw [gA_sA_ne (show j ≠ a from fun e => hj (by rw [e]; exact hk))]; exact h.2.1 j hj, h.2.2.1, h.2.2.2.1, h.2.2.2.2⟩
theorem Frm.sL {I A L B : Nat → Prop} {M M' : Mem} {k : Nat} {v : Int64} (h : Frm I A L B M M') (hk : L k) : Frm I A L B M (sL M' k v) :=
  ⟨h.1, h.2.1, h.2.2.1, fun j hj => by rw [gL_sL, if_neg (show ¬ j = k from fun e => hj (by rw [e]; exact hk))]; exact h.2.2.2.1 j hj, h.2.2.2.2⟩
theorem Frm.sB {I A L B : Nat → Prop} {M M' : Mem} {a i : Nat} {v : Int64} (h : Frm I A L B M M') (hk : B a) : Frm I A L B M (sB M' a i v) :=
  ⟨h.1, h.2.1, h.2.2.1, h.2.2.2.1, fun j hj => by rw [gB_sB_ne (show j ≠ a from fun e => hj (by rw [e]; exact hk))]; exact h.2.2.2.2 j hj⟩
-- numbers
theorem i_lt (x y : Int32) : x < y ↔ x.toInt < y.toInt := Int32.lt_iff_toInt_lt
theorem i_le (x y : Int32) : x ≤ y ↔ x.toInt ≤ y.toInt := Int32.le_iff_toInt_le
theorem i_eq (x y : Int32) : x = y ↔ x.toInt = y.toInt := Int32.toInt_inj.symm
theorem okP_in {ρ : Type} {o : Option ρ} {Q : ρ → Prop} {k n : Nat} (h : k < n) (hn : n < 2 ^ 31) (hk : okP o Q) : okP (if oob (nI k) n then none else o) Q := okP_f (nI_in h hn) hk
theorem lpS {α : Type} (F : α → α) (z : α) (n : Nat) : loopN F z (n + 1) = F (loopN F z n) := rfl
