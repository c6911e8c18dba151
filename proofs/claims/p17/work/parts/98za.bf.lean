/-! WAYS BY THE CLASS (Bellman and Ford), AGAINST THE REFERENCE'S DISTANCES -/
def rkF (g : Nat → Nat) (x : Nat) : Nat → Nat
  | 0 => 0
  | n + 1 => rkF g x n + if g n < x then 1 else 0
theorem rk_mono {g : Nat → Nat} {x y : Nat} (h : x ≤ y) : ∀ n, rkF g x n ≤ rkF g y n
  | 0 => Nat.le_refl _
  | n + 1 => by
    show rkF g x n + (if g n < x then 1 else 0) ≤ rkF g y n + (if g n < y then 1 else 0)
    have := rk_mono (g := g) h n
    by_cases a : g n < x
    · rw [if_pos a, if_pos (by omega)]; omega
    · rw [if_neg a]; omega
theorem rk_lt {g : Nat → Nat} {y u : Nat} (h : g u < y) : ∀ n, u < n → rkF g (g u) n < rkF g y n
  | 0, hu => by omega
  | n + 1, hu => by
    show rkF g (g u) n + (if g n < g u then 1 else 0) < rkF g y n + (if g n < y then 1 else 0)
    by_cases e : u = n
    · subst e
      have := rk_mono (g := g) (Nat.le_of_lt h) u
      rw [if_neg (Nat.lt_irrefl _), if_pos h]
      omega
    · have := rk_lt h n (by omega)
      by_cases a : g n < g u
      · rw [if_pos a, if_pos (by omega)]; omega
      · rw [if_neg a]; omega
theorem rk_le {g : Nat → Nat} {x : Nat} : ∀ n, rkF g x n ≤ n
  | 0 => Nat.le_refl _
  | n + 1 => by
    show rkF g x n + (if g n < x then 1 else 0) ≤ n + 1
    have := rk_le (g := g) (x := x) n
    by_cases a : g n < x
    · rw [if_pos a]; omega
    · rw [if_neg a]; omega
theorem rk_n {g : Nat → Nat} {x j : Nat} (h : ¬ g j < x) : ∀ n, j < n → rkF g x n < n
  | 0, hj => by omega
  | n + 1, hj => by
    show rkF g x n + (if g n < x then 1 else 0) < n + 1
    by_cases e : j = n
    · subst e
      have := rk_le (g := g) (x := x) j
      rw [if_neg h]; omega
    · have := rk_n h n (by omega)
      by_cases a : g n < x
      · rw [if_pos a]; omega
      · rw [if_neg a]; omega
def relx (d : Nat → Nat) (u v s : Nat) : Nat → Nat := fun j => if j = v then min (d v) (d u + s) else d j
theorem relx_le {d : Nat → Nat} {u v s j : Nat} : relx d u v s j ≤ d j := by
  unfold relx
  by_cases g : j = v
  · rw [if_pos g, g]; omega
  · rw [if_neg g]; omega
theorem relx_at {d : Nat → Nat} {u v s : Nat} : relx d u v s v ≤ d u + s := by
  unfold relx
  rw [if_pos rfl]; omega
/-- roads as numbers: ends A B, steps V, against the reference's S -/
def RdS (nc nr : Nat) (A B V : Nat → Nat) (S : Nat → Nat → Nat) : Prop := (∀ k, k < nr → A k < nc ∧ B k < nc ∧ 1 ≤ V k ∧ V k ≤ 30 ∧ S (A k) (B k) = V k ∧ S (B k) (A k) = V k) ∧ ∀ u v, u < 5 → v < 5 → 0 < S u v → ∃ k, k < nr ∧ ((A k = u ∧ B k = v) ∨ (A k = v ∧ B k = u))
def LBd (F : Nat → Nat → Nat) (a : Nat) (d : Nat → Nat) : Prop := ∀ j, j < 5 → min (F a j) 1000000 ≤ d j ∧ d j ≤ 1000000
theorem LBd.relx {S F : Nat → Nat → Nat} {a u v : Nat} {d : Nat → Nat} (h : LBd F a d) (hI : InvF S 5 F) (ha : a < 5) (hu : u < 5) (hv : v < 5) (hs : 0 < S u v) : LBd F a (_root_.id (relx d u v (S u v))) := fun j hj => by
  show min (F a j) 1000000 ≤ (if j = v then min (d v) (d u + S u v) else d j) ∧ (if j = v then min (d v) (d u + S u v) else d j) ≤ 1000000
  have t1 := hI.2.2.2.1 u hu a v ha hv
  have t2 := hI.2.2.1 u v hu hv hs
  have h1 := h u hu
  have h2 := h v hv
  by_cases g : j = v
  · rw [if_pos g, g]; omega
  · rw [if_neg g]; exact h j hj
def UBd (F : Nat → Nat → Nat) (a nc r : Nat) (d : Nat → Nat) : Prop := ∀ j, j < nc → F a j < 100000000 → rkF (F a) (F a j) nc ≤ r → d j ≤ F a j
def URd (S F : Nat → Nat → Nat) (A B : Nat → Nat) (a nc r k : Nat) (d : Nat → Nat) : Prop := UBd F a nc r d ∧ ∀ j, j < nc → F a j < 100000000 → rkF (F a) (F a j) nc ≤ r + 1 → (∃ k' u, k' < k ∧ u < nc ∧ ((A k' = u ∧ B k' = j) ∨ (A k' = j ∧ B k' = u)) ∧ 0 < S u j ∧ F a u + S u j ≤ F a j) → d j ≤ F a j
theorem URd.step {S F : Nat → Nat → Nat} {A B V : Nat → Nat} {a nc nr r k : Nat} {d : Nat → Nat} (h : URd S F A B a nc r k d) (hR : RdS nc nr A B V S) (hk : k < nr) : URd S F A B a nc r (k + 1) (relx (relx d (A k) (B k) (V k)) (B k) (A k) (V k)) := by
  have le2 : ∀ j, relx (relx d (A k) (B k) (V k)) (B k) (A k) (V k) j ≤ d j := fun j => Nat.le_trans relx_le relx_le
  refine ⟨fun j hj hf hr => Nat.le_trans (le2 j) (h.1 j hj hf hr), fun j hj hf hr ⟨k', u, k1, k2, k3, k4, k5⟩ => ?_⟩
  by_cases e : k' < k
  · exact Nat.le_trans (le2 j) (h.2 j hj hf hr ⟨k', u, e, k2, k3, k4, k5⟩)
  · have ek : k' = k := by omega
    subst ek
    obtain ⟨_, _, _, _, s1, s2⟩ := hR.1 k' hk
    have ru : rkF (F a) (F a u) nc ≤ r := by
      have := rk_lt (g := F a) (y := F a j) (u := u) (by omega) nc k2
      omega
    have du : d u ≤ F a u := h.1 u k2 (by omega) ru
    rcases k3 with ⟨rfl, rfl⟩ | ⟨rfl, rfl⟩
    · have a1 : relx d (A k') (B k') (V k') (B k') ≤ d (A k') + V k' := relx_at
      have a2 : relx (relx d (A k') (B k') (V k')) (B k') (A k') (V k') (B k') ≤ relx d (A k') (B k') (V k') (B k') := relx_le
      omega
    · have a1 : relx (relx d (A k') (B k') (V k')) (B k') (A k') (V k') (A k') ≤ relx d (A k') (B k') (V k') (B k') + V k' := relx_at
      have a2 : relx d (A k') (B k') (V k') (B k') ≤ d (B k') := relx_le
      omega
theorem URd.fin {S F : Nat → Nat → Nat} {A B V : Nat → Nat} {a nc nr r : Nat} {d : Nat → Nat} (h : URd S F A B a nc r nr d) (hR : RdS nc nr A B V S) (hI : InvF S 5 F) (h5 : nc ≤ 5) (ha : a < nc) (h0 : d a = 0) : UBd F a nc (r + 1) d := fun j hj hf hr => by
  by_cases e : j = a
  · rw [e, h0]; exact Nat.zero_le _
  · obtain ⟨u, u1, u2, u3⟩ := hI.2.2.2.2 a j (by omega) (by omega) (fun z => e z.symm) hf
    obtain ⟨k, k1, k2⟩ := hR.2 u j u1 (by omega) u2
    have := hR.1 k k1
    exact h.2 j hj hf hr ⟨k, u, k1, by rcases k2 with ⟨k2, _⟩ | ⟨_, k2⟩ <;> omega, k2, u2, u3⟩
/-- what is finite is short -/
theorem finF {S F : Nat → Nat → Nat} {A B V : Nat → Nat} {a nc nr : Nat} (hR : RdS nc nr A B V S) (hI : InvF S 5 F) (h5 : nc ≤ 5) (ha : a < nc) : ∀ r j, j < nc → F a j < 100000000 → rkF (F a) (F a j) nc ≤ r → F a j ≤ 30 * r
  | r, j, hj, hf, hr => by
    by_cases e : j = a
    · rw [e, hI.1 a (by omega)]; exact Nat.zero_le _
    · obtain ⟨u, u1, u2, u3⟩ := hI.2.2.2.2 a j (by omega) (by omega) (fun z => e z.symm) hf
      obtain ⟨k, k1, k2⟩ := hR.2 u j u1 (by omega) u2
      obtain ⟨r1, r2, r3, r4, r5, r6⟩ := hR.1 k k1
      have hu : u < nc := by rcases k2 with ⟨k2, _⟩ | ⟨_, k2⟩ <;> omega
      have su : S u j ≤ 30 := by
        rcases k2 with ⟨k2, k3⟩ | ⟨k2, k3⟩
        · rw [← k2, ← k3]; omega
        · rw [← k2, ← k3]; omega
      have rl := rk_lt (g := F a) (y := F a j) (u := u) (by omega) nc hu
      have t1 := hI.2.2.2.1 u u1 a j (by omega) (by omega)
      have t2 := hI.2.2.1 u j u1 (by omega) u2
      match r, hr with
      | 0, hr => omega
      | r + 1, hr =>
        have := finF hR hI h5 ha r u hu (by omega) (by omega)
        omega
