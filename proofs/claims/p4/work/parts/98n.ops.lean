/-! EVERY JOINING CODE, ONE BY ONE -/
theorem bIf {P : Prop} [Decidable P] {x y : Int} (hx : bR x) (hy : bR y) : bR (if P then x else y) := by
  by_cases g : P
  · rw [if_pos g]; exact hx
  · rw [if_neg g]; exact hy
theorem b0 : bR 0 := Or.inl rfl
theorem b1 : bR 1 := Or.inr rfl
theorem ev31 {n0 q1 b wh e len i j : Nat} {r : List Bool} {MX MY : Mem} (h : EvR q1 b wh e len (false :: false :: r) MX MY) (hj : j < len) (hi : i < e) (hX : gA MX (q1 + 1) j = -7) (hY : gA MY 16 (1600 * b + i) = 31) : Ev1 n0 q1 b wh e len (false :: false :: r) (false :: r) i j 1 MX MY := by
  have l : (false :: false :: r).length = r.length + 2 := rfl
  have h6 := h.2.2.2.2.2.1
  exact evop h hj hi hX hY (by decide) (by decide) (by decide) (by decide) (by decide) (fun u v M g1 g2 _ _ => x31 (by omega) g1 g2) (fun u v M g1 g2 _ _ => y31 g1 g2) (fun u v _ _ z => by cases z)
theorem ev32 {n0 q1 b wh e len i j : Nat} {r : List Bool} {MX MY : Mem} (h : EvR q1 b wh e len (false :: false :: r) MX MY) (hj : j < len) (hi : i < e) (hX : gA MX (q1 + 1) j = -8) (hY : gA MY 16 (1600 * b + i) = 32) : Ev1 n0 q1 b wh e len (false :: false :: r) (false :: r) i j 1 MX MY := by
  have l : (false :: false :: r).length = r.length + 2 := rfl
  have h6 := h.2.2.2.2.2.1
  exact evop h hj hi hX hY (by decide) (by decide) (by decide) (by decide) (by decide) (fun u v M g1 g2 _ _ => x32 (by omega) g1 g2) (fun u v M g1 g2 _ _ => y32 g1 g2) (fun u v _ _ z => by cases z)
theorem ev33 {n0 q1 b wh e len i j : Nat} {r : List Bool} {MX MY : Mem} (h : EvR q1 b wh e len (false :: false :: r) MX MY) (hj : j < len) (hi : i < e) (hX : gA MX (q1 + 1) j = -9) (hY : gA MY 16 (1600 * b + i) = 33) : Ev1 n0 q1 b wh e len (false :: false :: r) (false :: r) i j 1 MX MY := by
  have l : (false :: false :: r).length = r.length + 2 := rfl
  have h6 := h.2.2.2.2.2.1
  exact evop h hj hi hX hY (by decide) (by decide) (by decide) (by decide) (by decide) (fun u v M g1 g2 _ _ => x33 (by omega) g1 g2) (fun u v M g1 g2 _ _ => y33 g1 g2) (fun u v _ _ z => by cases z)
theorem ev34 {n0 q1 b wh e len i j : Nat} {r : List Bool} {MX MY : Mem} (h : EvR q1 b wh e len (false :: false :: r) MX MY) (hj : j < len) (hi : i < e) (hX : gA MX (q1 + 1) j = -10) (hY : gA MY 16 (1600 * b + i) = 34) : Ev1 n0 q1 b wh e len (false :: false :: r) (false :: r) i j 1 MX MY := by
  have l : (false :: false :: r).length = r.length + 2 := rfl
  have h6 := h.2.2.2.2.2.1
  exact evop h hj hi hX hY (by decide) (by decide) (by decide) (by decide) (by decide) (fun u v M g1 g2 _ _ => x34 (by omega) g1 g2) (fun u v M g1 g2 _ _ => y34 g1 g2) (fun u v _ _ z => by cases z)
theorem ev35 {n0 q1 b wh e len i j : Nat} {r : List Bool} {MX MY : Mem} (h : EvR q1 b wh e len (false :: false :: r) MX MY) (hj : j < len) (hi : i < e) (hX : gA MX (q1 + 1) j = -11) (hY : gA MY 16 (1600 * b + i) = 35) : Ev1 n0 q1 b wh e len (false :: false :: r) (false :: r) i j 1 MX MY := by
  have l : (false :: false :: r).length = r.length + 2 := rfl
  have h6 := h.2.2.2.2.2.1
  exact evop h hj hi hX hY (by decide) (by decide) (by decide) (by decide) (by decide) (fun u v M g1 g2 _ _ => x35 (by omega) g1 g2) (fun u v M g1 g2 _ _ => y35 g1 g2) (fun u v _ _ z => by cases z)
theorem ev36 {n0 q1 b wh e len i j : Nat} {r : List Bool} {MX MY : Mem} (h : EvR q1 b wh e len (false :: false :: r) MX MY) (hj : j < len) (hi : i < e) (hX : gA MX (q1 + 1) j = -12) (hY : gA MY 16 (1600 * b + i) = 36) : Ev1 n0 q1 b wh e len (false :: false :: r) (false :: r) i j 1 MX MY := by
  have l : (false :: false :: r).length = r.length + 2 := rfl
  have h6 := h.2.2.2.2.2.1
  exact evop h hj hi hX hY (by decide) (by decide) (by decide) (by decide) (by decide) (fun u v M g1 g2 _ _ => x36 (by omega) g1 g2) (fun u v M g1 g2 _ _ => y36 g1 g2) (fun u v _ _ z => by cases z)
theorem ev37 {n0 q1 b wh e len i j : Nat} {r : List Bool} {MX MY : Mem} (h : EvR q1 b wh e len (false :: false :: r) MX MY) (hj : j < len) (hi : i < e) (hX : gA MX (q1 + 1) j = -13) (hY : gA MY 16 (1600 * b + i) = 37) : Ev1 n0 q1 b wh e len (false :: false :: r) (false :: r) i j 1 MX MY := by
  have l : (false :: false :: r).length = r.length + 2 := rfl
  have h6 := h.2.2.2.2.2.1
  exact evop h hj hi hX hY (by decide) (by decide) (by decide) (by decide) (by decide) (fun u v M g1 g2 _ _ => x37 (by omega) g1 g2) (fun u v M g1 g2 _ _ => y37 g1 g2) (fun u v _ _ z => by cases z)
theorem ev38 {n0 q1 b wh e len i j : Nat} {r : List Bool} {MX MY : Mem} (h : EvR q1 b wh e len (false :: false :: r) MX MY) (hj : j < len) (hi : i < e) (hX : gA MX (q1 + 1) j = -15) (hY : gA MY 16 (1600 * b + i) = 38) : Ev1 n0 q1 b wh e len (false :: false :: r) (true :: r) i j 1 MX MY := by
  have l : (false :: false :: r).length = r.length + 2 := rfl
  have h6 := h.2.2.2.2.2.1
  exact evop h hj hi hX hY (by decide) (by decide) (by decide) (by decide) (by decide) (fun u v M g1 g2 _ _ => x38 (by omega) g1 g2) (fun u v M g1 g2 _ _ => y38 g1 g2) (fun u v _ _ _ => (show bR (if v ≤ u then 0 else 1) from bIf b0 b1))
theorem ev39 {n0 q1 b wh e len i j : Nat} {r : List Bool} {MX MY : Mem} (h : EvR q1 b wh e len (false :: false :: r) MX MY) (hj : j < len) (hi : i < e) (hX : gA MX (q1 + 1) j = -16) (hY : gA MY 16 (1600 * b + i) = 39) : Ev1 n0 q1 b wh e len (false :: false :: r) (true :: r) i j 1 MX MY := by
  have l : (false :: false :: r).length = r.length + 2 := rfl
  have h6 := h.2.2.2.2.2.1
  exact evop h hj hi hX hY (by decide) (by decide) (by decide) (by decide) (by decide) (fun u v M g1 g2 _ _ => x39 (by omega) g1 g2) (fun u v M g1 g2 _ _ => y39 g1 g2) (fun u v _ _ _ => (show bR (if u ≤ v then 0 else 1) from bIf b0 b1))
theorem ev40 {n0 q1 b wh e len i j : Nat} {r : List Bool} {MX MY : Mem} (h : EvR q1 b wh e len (false :: false :: r) MX MY) (hj : j < len) (hi : i < e) (hX : gA MX (q1 + 1) j = -17) (hY : gA MY 16 (1600 * b + i) = 40) : Ev1 n0 q1 b wh e len (false :: false :: r) (true :: r) i j 1 MX MY := by
  have l : (false :: false :: r).length = r.length + 2 := rfl
  have h6 := h.2.2.2.2.2.1
  exact evop h hj hi hX hY (by decide) (by decide) (by decide) (by decide) (by decide) (fun u v M g1 g2 _ _ => x40 (by omega) g1 g2) (fun u v M g1 g2 _ _ => y40 g1 g2) (fun u v _ _ _ => (show bR (if u = v then 1 else 0) from bIf b1 b0))
theorem ev41 {n0 q1 b wh e len i j : Nat} {r : List Bool} {MX MY : Mem} (h : EvR q1 b wh e len (true :: true :: r) MX MY) (hj : j < len) (hi : i < e) (hX : gA MX (q1 + 1) j = -18) (hY : gA MY 16 (1600 * b + i) = 41) : Ev1 n0 q1 b wh e len (true :: true :: r) (true :: r) i j 1 MX MY := by
  have l : (true :: true :: r).length = r.length + 2 := rfl
  have h6 := h.2.2.2.2.2.1
  exact evop h hj hi hX hY (by decide) (by decide) (by decide) (by decide) (by decide) (fun u v M _ _ g1 g2 => x41 (by omega) (g2 rfl) (g1 rfl)) (fun u v M _ _ g1 g2 => y41 (g2 rfl) (g1 rfl)) (fun u v g1 g2 _ => (show bR (if u = 0 then 0 else v) from bIf b0 (g1 rfl)))
theorem ev42 {n0 q1 b wh e len i j : Nat} {r : List Bool} {MX MY : Mem} (h : EvR q1 b wh e len (true :: true :: r) MX MY) (hj : j < len) (hi : i < e) (hX : gA MX (q1 + 1) j = -19) (hY : gA MY 16 (1600 * b + i) = 42) : Ev1 n0 q1 b wh e len (true :: true :: r) (true :: r) i j 1 MX MY := by
  have l : (true :: true :: r).length = r.length + 2 := rfl
  have h6 := h.2.2.2.2.2.1
  exact evop h hj hi hX hY (by decide) (by decide) (by decide) (by decide) (by decide) (fun u v M _ _ g1 g2 => x42 (by omega) (g2 rfl) (g1 rfl)) (fun u v M _ _ g1 g2 => y42 (g2 rfl) (g1 rfl)) (fun u v g1 g2 _ => (show bR (if u = 0 then v else 1) from bIf (g1 rfl) b1))
