/-! DECODING A METHOD IN ONE PASS: a window of the code, run by itself, tells what the whole code says there -/
def Sh {α : Type} (r : ClassFile.Decoder α) : Prop := ∀ (pre w tl : List UInt8) (p : Nat) (a : α) (p' : Nat), r ⟨⟨w⟩⟩ p = .ok (a, p') → r ⟨⟨pre ++ (w ++ tl)⟩⟩ (pre.length + p) = .ok (a, pre.length + p')
theorem Sh_pure {α : Type} (x : α) : Sh (pure x : ClassFile.Decoder α) := fun pre w tl p a p' h => by
  have h1 : (Except.ok (x, p) : Except ClassFile.DecodeError (α × Nat)) = .ok (a, p') := h
  injection h1 with h2
  injection h2 with h3 h4
  subst h3 h4
  rfl
theorem sh_bnd {α β : Type} (r : ClassFile.Decoder α) (f : α → ClassFile.Decoder β) (c : ByteArray) (p : Nat) : (r >>= f) c p = (r c p).bind (fun x => f x.1 c x.2) := rfl
theorem sh_map {α β : Type} (f : α → β) (r : ClassFile.Decoder α) (c : ByteArray) (p : Nat) : (f <$> r) c p = (r c p).bind (fun x => .ok (f x.1, x.2)) := rfl
theorem Sh_bind {α β : Type} {r : ClassFile.Decoder α} {f : α → ClassFile.Decoder β} (h : Sh r) (hf : ∀ a, Sh (f a)) : Sh (r >>= f) := fun pre w tl p a p' e => by
  rw [sh_bnd] at e ⊢
  cases g : r ⟨⟨w⟩⟩ p with
  | error x =>
    rw [g] at e
    exact absurd (show (Except.error x : Except ClassFile.DecodeError (β × Nat)) = .ok (a, p') from e) (fun z => by cases z)
  | ok x =>
    rw [g] at e
    rw [h pre w tl p x.1 x.2 g]
    exact hf x.1 pre w tl x.2 a p' e
theorem Sh_map {α β : Type} {r : ClassFile.Decoder α} (f : α → β) (h : Sh r) : Sh (f <$> r) := fun pre w tl p a p' e => by
  rw [sh_map] at e ⊢
  cases g : r ⟨⟨w⟩⟩ p with
  | error x =>
    rw [g] at e
    exact absurd (show (Except.error x : Except ClassFile.DecodeError (β × Nat)) = .ok (a, p') from e) (fun z => by cases z)
  | ok x =>
    rw [g] at e
    have e1 : (Except.ok (f x.1, x.2) : Except ClassFile.DecodeError (β × Nat)) = .ok (a, p') := e
    injection e1 with e2
    injection e2 with e3 e4
    rw [h pre w tl p x.1 x.2 g, ← e3, ← e4]
    rfl
theorem u1_run (c : ByteArray) (p : Nat) (h : p < c.size) : (ClassFile.Reader.u1 : ClassFile.Decoder Nat) c p = .ok (c[p].toNat, p + 1) := by
  have e : (ClassFile.Reader.u1 : ClassFile.Decoder Nat) c p = (if h : p < c.size then (do set (p + 1); pure c[p].toNat : ClassFile.Decoder Nat) else throw (ClassFile.HasTruncated.truncated p)) c p := rfl
  rw [e, dif_pos h]
  rfl
theorem u1_end (c : ByteArray) (p : Nat) (h : ¬ p < c.size) : (ClassFile.Reader.u1 : ClassFile.Decoder Nat) c p = .error (ClassFile.HasTruncated.truncated p) := by
  have e : (ClassFile.Reader.u1 : ClassFile.Decoder Nat) c p = (if h : p < c.size then (do set (p + 1); pure c[p].toNat : ClassFile.Decoder Nat) else throw (ClassFile.HasTruncated.truncated p)) c p := rfl
  rw [e, dif_neg h]
  rfl
theorem Sh_u1 : Sh (ClassFile.Reader.u1 : ClassFile.Decoder Nat) := fun pre w tl p a p' e => by
  by_cases h : p < w.length
  · rw [u1_run ⟨⟨w⟩⟩ p h] at e
    injection e with e1
    injection e1 with e2 e3
    have hl : pre.length + p < (pre ++ (w ++ tl)).length := by rw [List.length_append, List.length_append]; omega
    rw [u1_run ⟨⟨pre ++ (w ++ tl)⟩⟩ (pre.length + p) hl, ← e2, ← e3]
    have key : (pre ++ (w ++ tl))[pre.length + p]? = w[p]? := by rw [List.getElem?_append_right (by omega), Nat.add_sub_cancel_left, List.getElem?_append_left h]
    rw [List.getElem?_eq_getElem hl, List.getElem?_eq_getElem h] at key
    have k2 := Option.some.inj key
    show Except.ok ((pre ++ (w ++ tl))[pre.length + p].toNat, pre.length + p + 1) = Except.ok (w[p].toNat, pre.length + (p + 1))
    rw [k2]
    rfl
  · rw [u1_end ⟨⟨w⟩⟩ p h] at e
    cases e
theorem Sh_u2 : Sh (ClassFile.Reader.u2 : ClassFile.Decoder Nat) := Sh_bind Sh_u1 (fun _ => Sh_bind Sh_u1 (fun _ => Sh_pure _))
theorem Sh_s1 : Sh (ClassFile.Reader.s1 : ClassFile.Decoder Int) := Sh_map _ Sh_u1
theorem Sh_s2 : Sh (ClassFile.Reader.s2 : ClassFile.Decoder Int) := Sh_map _ Sh_u2
def shU : List Nat := [42, 43, 4, 3, 180, 182, 27, 28, 26, 29, 44, 172, 46, 16, 181, 96, 45, 21, 162, 163, 161, 164, 159, 160, 153, 154, 155, 156, 157, 158, 167, 2, 5, 6, 7, 8, 9, 10, 30, 31, 32, 33, 173, 47, 50, 51, 60, 59, 61, 62, 63, 64, 65, 66, 75, 76, 77, 78, 79, 80, 83, 84, 97, 100, 101, 104, 105, 108, 109, 112, 113, 120, 121, 122, 123, 126, 127, 128, 129, 130, 131, 133, 136, 146, 148, 87, 88, 89, 92, 177, 190, 191, 22, 25, 54, 55, 58, 18, 184, 183, 178, 187, 19, 20, 132, 17]
theorem sh_instr : ∃ F : Nat → Nat → ClassFile.Decoder ClassFile.Instr, (∀ pc, ClassFile.Decoder.instr pc = (ClassFile.Reader.u1 >>= F pc)) ∧ ∀ pc, ∀ o ∈ shU, Sh (F pc o) := by
  refine ⟨_, fun pc => rfl, fun pc => ?_⟩
  unfold shU
  refine List.forall_mem_cons.mpr ⟨Sh_pure _, ?_⟩
  refine List.forall_mem_cons.mpr ⟨Sh_pure _, ?_⟩
  refine List.forall_mem_cons.mpr ⟨Sh_pure _, ?_⟩
  refine List.forall_mem_cons.mpr ⟨Sh_pure _, ?_⟩
  refine List.forall_mem_cons.mpr ⟨Sh_bind Sh_u2 (fun _ => Sh_pure _), ?_⟩
  refine List.forall_mem_cons.mpr ⟨Sh_bind Sh_u2 (fun _ => Sh_pure _), ?_⟩
  refine List.forall_mem_cons.mpr ⟨Sh_pure _, ?_⟩
  refine List.forall_mem_cons.mpr ⟨Sh_pure _, ?_⟩
  refine List.forall_mem_cons.mpr ⟨Sh_pure _, ?_⟩
  refine List.forall_mem_cons.mpr ⟨Sh_pure _, ?_⟩
  refine List.forall_mem_cons.mpr ⟨Sh_pure _, ?_⟩
  refine List.forall_mem_cons.mpr ⟨Sh_pure _, ?_⟩
  refine List.forall_mem_cons.mpr ⟨Sh_pure _, ?_⟩
  refine List.forall_mem_cons.mpr ⟨Sh_bind Sh_s1 (fun _ => Sh_pure _), ?_⟩
  refine List.forall_mem_cons.mpr ⟨Sh_bind Sh_u2 (fun _ => Sh_pure _), ?_⟩
  refine List.forall_mem_cons.mpr ⟨Sh_pure _, ?_⟩
  refine List.forall_mem_cons.mpr ⟨Sh_pure _, ?_⟩
  refine List.forall_mem_cons.mpr ⟨Sh_bind Sh_u1 (fun _ => Sh_pure _), ?_⟩
  refine List.forall_mem_cons.mpr ⟨Sh_bind Sh_s2 (fun _ => Sh_pure _), ?_⟩
  refine List.forall_mem_cons.mpr ⟨Sh_bind Sh_s2 (fun _ => Sh_pure _), ?_⟩
  refine List.forall_mem_cons.mpr ⟨Sh_bind Sh_s2 (fun _ => Sh_pure _), ?_⟩
  refine List.forall_mem_cons.mpr ⟨Sh_bind Sh_s2 (fun _ => Sh_pure _), ?_⟩
  refine List.forall_mem_cons.mpr ⟨Sh_bind Sh_s2 (fun _ => Sh_pure _), ?_⟩
  refine List.forall_mem_cons.mpr ⟨Sh_bind Sh_s2 (fun _ => Sh_pure _), ?_⟩
  refine List.forall_mem_cons.mpr ⟨Sh_bind Sh_s2 (fun _ => Sh_pure _), ?_⟩
  refine List.forall_mem_cons.mpr ⟨Sh_bind Sh_s2 (fun _ => Sh_pure _), ?_⟩
  refine List.forall_mem_cons.mpr ⟨Sh_bind Sh_s2 (fun _ => Sh_pure _), ?_⟩
  refine List.forall_mem_cons.mpr ⟨Sh_bind Sh_s2 (fun _ => Sh_pure _), ?_⟩
  refine List.forall_mem_cons.mpr ⟨Sh_bind Sh_s2 (fun _ => Sh_pure _), ?_⟩
  refine List.forall_mem_cons.mpr ⟨Sh_bind Sh_s2 (fun _ => Sh_pure _), ?_⟩
  refine List.forall_mem_cons.mpr ⟨Sh_bind Sh_s2 (fun _ => Sh_pure _), ?_⟩
  refine List.forall_mem_cons.mpr ⟨Sh_pure _, ?_⟩
  refine List.forall_mem_cons.mpr ⟨Sh_pure _, ?_⟩
  refine List.forall_mem_cons.mpr ⟨Sh_pure _, ?_⟩
  refine List.forall_mem_cons.mpr ⟨Sh_pure _, ?_⟩
  refine List.forall_mem_cons.mpr ⟨Sh_pure _, ?_⟩
  refine List.forall_mem_cons.mpr ⟨Sh_pure _, ?_⟩
  refine List.forall_mem_cons.mpr ⟨Sh_pure _, ?_⟩
  refine List.forall_mem_cons.mpr ⟨Sh_pure _, ?_⟩
  refine List.forall_mem_cons.mpr ⟨Sh_pure _, ?_⟩
  refine List.forall_mem_cons.mpr ⟨Sh_pure _, ?_⟩
  refine List.forall_mem_cons.mpr ⟨Sh_pure _, ?_⟩
  refine List.forall_mem_cons.mpr ⟨Sh_pure _, ?_⟩
  refine List.forall_mem_cons.mpr ⟨Sh_pure _, ?_⟩
  refine List.forall_mem_cons.mpr ⟨Sh_pure _, ?_⟩
  refine List.forall_mem_cons.mpr ⟨Sh_pure _, ?_⟩
  refine List.forall_mem_cons.mpr ⟨Sh_pure _, ?_⟩
  refine List.forall_mem_cons.mpr ⟨Sh_pure _, ?_⟩
  refine List.forall_mem_cons.mpr ⟨Sh_pure _, ?_⟩
  refine List.forall_mem_cons.mpr ⟨Sh_pure _, ?_⟩
  refine List.forall_mem_cons.mpr ⟨Sh_pure _, ?_⟩
  refine List.forall_mem_cons.mpr ⟨Sh_pure _, ?_⟩
  refine List.forall_mem_cons.mpr ⟨Sh_pure _, ?_⟩
  refine List.forall_mem_cons.mpr ⟨Sh_pure _, ?_⟩
  refine List.forall_mem_cons.mpr ⟨Sh_pure _, ?_⟩
  refine List.forall_mem_cons.mpr ⟨Sh_pure _, ?_⟩
  refine List.forall_mem_cons.mpr ⟨Sh_pure _, ?_⟩
  refine List.forall_mem_cons.mpr ⟨Sh_pure _, ?_⟩
  refine List.forall_mem_cons.mpr ⟨Sh_pure _, ?_⟩
  refine List.forall_mem_cons.mpr ⟨Sh_pure _, ?_⟩
  refine List.forall_mem_cons.mpr ⟨Sh_pure _, ?_⟩
  refine List.forall_mem_cons.mpr ⟨Sh_pure _, ?_⟩
  refine List.forall_mem_cons.mpr ⟨Sh_pure _, ?_⟩
  refine List.forall_mem_cons.mpr ⟨Sh_pure _, ?_⟩
  refine List.forall_mem_cons.mpr ⟨Sh_pure _, ?_⟩
  refine List.forall_mem_cons.mpr ⟨Sh_pure _, ?_⟩
  refine List.forall_mem_cons.mpr ⟨Sh_pure _, ?_⟩
  refine List.forall_mem_cons.mpr ⟨Sh_pure _, ?_⟩
  refine List.forall_mem_cons.mpr ⟨Sh_pure _, ?_⟩
  refine List.forall_mem_cons.mpr ⟨Sh_pure _, ?_⟩
  refine List.forall_mem_cons.mpr ⟨Sh_pure _, ?_⟩
  refine List.forall_mem_cons.mpr ⟨Sh_pure _, ?_⟩
  refine List.forall_mem_cons.mpr ⟨Sh_pure _, ?_⟩
  refine List.forall_mem_cons.mpr ⟨Sh_pure _, ?_⟩
  refine List.forall_mem_cons.mpr ⟨Sh_pure _, ?_⟩
  refine List.forall_mem_cons.mpr ⟨Sh_pure _, ?_⟩
  refine List.forall_mem_cons.mpr ⟨Sh_pure _, ?_⟩
  refine List.forall_mem_cons.mpr ⟨Sh_pure _, ?_⟩
  refine List.forall_mem_cons.mpr ⟨Sh_pure _, ?_⟩
  refine List.forall_mem_cons.mpr ⟨Sh_pure _, ?_⟩
  refine List.forall_mem_cons.mpr ⟨Sh_pure _, ?_⟩
  refine List.forall_mem_cons.mpr ⟨Sh_pure _, ?_⟩
  refine List.forall_mem_cons.mpr ⟨Sh_pure _, ?_⟩
  refine List.forall_mem_cons.mpr ⟨Sh_pure _, ?_⟩
  refine List.forall_mem_cons.mpr ⟨Sh_pure _, ?_⟩
  refine List.forall_mem_cons.mpr ⟨Sh_pure _, ?_⟩
  refine List.forall_mem_cons.mpr ⟨Sh_pure _, ?_⟩
  refine List.forall_mem_cons.mpr ⟨Sh_pure _, ?_⟩
  refine List.forall_mem_cons.mpr ⟨Sh_pure _, ?_⟩
  refine List.forall_mem_cons.mpr ⟨Sh_pure _, ?_⟩
  refine List.forall_mem_cons.mpr ⟨Sh_pure _, ?_⟩
  refine List.forall_mem_cons.mpr ⟨Sh_pure _, ?_⟩
  refine List.forall_mem_cons.mpr ⟨Sh_bind Sh_u1 (fun _ => Sh_pure _), ?_⟩
  refine List.forall_mem_cons.mpr ⟨Sh_bind Sh_u1 (fun _ => Sh_pure _), ?_⟩
  refine List.forall_mem_cons.mpr ⟨Sh_bind Sh_u1 (fun _ => Sh_pure _), ?_⟩
  refine List.forall_mem_cons.mpr ⟨Sh_bind Sh_u1 (fun _ => Sh_pure _), ?_⟩
  refine List.forall_mem_cons.mpr ⟨Sh_bind Sh_u1 (fun _ => Sh_pure _), ?_⟩
  refine List.forall_mem_cons.mpr ⟨Sh_bind Sh_u1 (fun _ => Sh_pure _), ?_⟩
  refine List.forall_mem_cons.mpr ⟨Sh_bind Sh_u2 (fun _ => Sh_pure _), ?_⟩
  refine List.forall_mem_cons.mpr ⟨Sh_bind Sh_u2 (fun _ => Sh_pure _), ?_⟩
  refine List.forall_mem_cons.mpr ⟨Sh_bind Sh_u2 (fun _ => Sh_pure _), ?_⟩
  refine List.forall_mem_cons.mpr ⟨Sh_bind Sh_u2 (fun _ => Sh_pure _), ?_⟩
  refine List.forall_mem_cons.mpr ⟨Sh_bind Sh_u2 (fun _ => Sh_pure _), ?_⟩
  refine List.forall_mem_cons.mpr ⟨Sh_bind Sh_u2 (fun _ => Sh_pure _), ?_⟩
  refine List.forall_mem_cons.mpr ⟨Sh_bind Sh_u1 (fun _ => Sh_bind Sh_s1 (fun _ => Sh_pure _)), ?_⟩
  refine List.forall_mem_cons.mpr ⟨Sh_bind Sh_s2 (fun _ => Sh_pure _), ?_⟩
  exact fun _ h => absurd h List.not_mem_nil
def hdU : List UInt8 → Bool
  | [] => false
  | b :: _ => shU.contains b.toNat
def ckD (c : ByteArray) : Nat → List UInt8 → List (Nat × ClassFile.Instr × Nat) → Bool
  | _, _, [] => true
  | pc, l, x :: r => (decide (x.1 = pc) && (decide ((l.take x.2.2).length = x.2.2) && ((hdU l && decide ((ClassFile.Decoder.instr pc).runAt ⟨⟨l.take x.2.2⟩⟩ 0 = .ok (x.2.1, x.2.2))) || decide (decode c pc = .ok (x.2.1, x.2.2))))) && ckD c (pc + x.2.2) (l.drop x.2.2) r
theorem ckD_1 {c : ByteArray} {pre rest : List UInt8} {i : ClassFile.Instr} {n : Nat} (hc : c = ⟨⟨pre ++ rest⟩⟩) (h1 : hdU rest = true) (h2 : (ClassFile.Decoder.instr pre.length).runAt ⟨⟨rest.take n⟩⟩ 0 = .ok (i, n)) : decode c pre.length = .ok (i, n) := by
  obtain ⟨F, hF, hS⟩ := sh_instr
  have g : (ClassFile.Reader.u1 >>= F pre.length) ⟨⟨rest.take n⟩⟩ 0 = .ok (i, n) := by
    rw [← hF]
    exact h2
  rw [sh_bnd] at g
  match rest, n, h1, g, hc with
  | [], _, h1, _, _ => exact absurd (show false = true from h1) (by decide)
  | b :: bs, 0, _, g, _ =>
    rw [u1_end _ _ (show ¬ 0 < ([] : List UInt8).length by decide)] at g
    cases g
  | b :: bs, k + 1, h1, g, hc =>
    have hb : b.toNat ∈ shU := List.contains_iff_mem.mp h1
    have r1 : (ClassFile.Reader.u1 : ClassFile.Decoder Nat) ⟨⟨(b :: bs).take (k + 1)⟩⟩ 0 = .ok (b.toNat, 1) := u1_run ⟨⟨b :: bs.take k⟩⟩ 0 (show 0 < (b :: bs.take k).length by simp)
    rw [r1] at g
    have g1 : F pre.length b.toNat ⟨⟨(b :: bs).take (k + 1)⟩⟩ 1 = .ok (i, k + 1) := g
    have g2 := hS pre.length b.toNat hb pre ((b :: bs).take (k + 1)) ((b :: bs).drop (k + 1)) 1 i (k + 1) g1
    have r2 := Sh_u1 pre ((b :: bs).take (k + 1)) ((b :: bs).drop (k + 1)) 0 b.toNat 1 r1
    rw [List.take_append_drop, ← hc] at g2 r2
    have g3 : (ClassFile.Decoder.instr pre.length).runAt c pre.length = .ok (i, pre.length + (k + 1)) := by
      rw [hF]
      show (ClassFile.Reader.u1 >>= F pre.length) c (pre.length + 0) = _
      rw [sh_bnd, r2]
      exact g2
    unfold ClassFile.decode
    rw [g3]
    show Except.ok (i, pre.length + (k + 1) - pre.length) = _
    rw [Nat.add_sub_cancel_left]
theorem ckD_s {c : ByteArray} : ∀ (l : List (Nat × ClassFile.Instr × Nat)) (rest pre : List UInt8), c = ⟨⟨pre ++ rest⟩⟩ → ckD c pre.length rest l = true → ∀ x ∈ l, decode c x.1 = .ok (x.2.1, x.2.2)
  | [], _, _, _, _ => fun x hx => absurd hx List.not_mem_nil
  | y :: r, rest, pre, hc, h => by
    unfold ckD at h
    rw [Bool.and_eq_true, Bool.and_eq_true, Bool.and_eq_true, Bool.or_eq_true, Bool.and_eq_true] at h
    obtain ⟨⟨h1, h2, h3⟩, h4⟩ := h
    have e1 : y.1 = pre.length := of_decide_eq_true h1
    have e2 : (rest.take y.2.2).length = y.2.2 := of_decide_eq_true h2
    have d : decode c y.1 = .ok (y.2.1, y.2.2) := by
      rw [e1]
      rcases h3 with ⟨g1, g2⟩ | g
      · exact ckD_1 hc g1 (of_decide_eq_true g2)
      · exact of_decide_eq_true g
    have t := ckD_s (c := c) r (rest.drop y.2.2) (pre ++ rest.take y.2.2) (by rw [List.append_assoc, List.take_append_drop]; exact hc) (by rw [List.length_append, e2]; exact h4)
    exact List.forall_mem_cons.mpr ⟨d, t⟩
def dkO (c : ByteArray) (pc0 : Nat) (l : List (Nat × ClassFile.Instr × Nat)) : Bool := decide ((c.data.toList.take pc0).length = pc0) && ckD c pc0 (c.data.toList.drop pc0) l
theorem dk_i {c : ByteArray} {pc0 : Nat} {l : List (Nat × ClassFile.Instr × Nat)} {pc n : Nat} {i : ClassFile.Instr} (h : dkO c pc0 l = true) (k : Nat) (e : l[k]? = some (pc, i, n)) : decode c pc = .ok (i, n) := by
  unfold dkO at h
  rw [Bool.and_eq_true] at h
  have e1 : (c.data.toList.take pc0).length = pc0 := of_decide_eq_true h.1
  have s := ckD_s (c := c) l (c.data.toList.drop pc0) (c.data.toList.take pc0) (by rw [List.take_append_drop]) (by rw [e1]; exact h.2)
  exact s (pc, i, n) (List.mem_of_getElem? e)
