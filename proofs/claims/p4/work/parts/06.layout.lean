def LX_kd : List Nat := [11, 4, 3, 8, 13, 7, 13, 1, 13, 13, 6, 13, 13, 13, 13, 13, 2, 16, 10, 13, 13, 5, 13, 13, 13, 16, 13, 13, 13, 13, 13, 9, 13, 13, 13, 13, 13, 13, 13, 13, 13, 13, 13, 0, 13, 0, 13, 9, 13, 13, 13, 13, 13, 13, 13, 13, 13, 13, 13, 0, 13, 0, 13, 13, 13, 13, 13, 13, 13, 13, 13, 13, 13, 13, 13, 13, 13, 13, 13, 13, 13, 13, 13, 13, 13, 13, 13, 13, 13, 13]
def LX_ln : List Nat := [0, 0, 0, 0, 25, 0, 1600, 0, 6, 64, 0, 5, 5, 6, 6, 6, 0, 20, 0, 5, 61, 0, 16, 16, 16, 7, 61, 61, 5, 24, 6, 0, 6, 6, 6, 5, 5, 10, 10, 10, 6, 6, 6, 0, 1600, 0, 1600, 0, 6, 6, 6, 5, 5, 10, 10, 10, 6, 6, 6, 0, 1600, 0, 1600, 18, 18, 18, 18, 18, 18, 18, 18, 18, 18, 18, 18, 18, 18, 18, 18, 18, 18, 18, 18, 41, 41, 41, 41, 41, 41, 41]
def LX_ds : Nat → List Nat := fun c => match c with
  | 0 => [4, 0]
  | 1 => [2, 0, 0, 0, 0, 4, 5, 0]
  | 2 => [4, 0, 0]
  | 3 => [4, 2, 0]
  | 4 => [5, 4, 2]
  | 5 => [0, 4, 5, 6, 7]
  | 6 => [2, 0, 4, 5, 6, 0, 7, 8]
  | 7 => [4, 0]
  | 8 => [5, 4, 0, 0, 0, 0, 0, 0, 0]
  | 9 => [0, 0, 4, 5, 6, 0, 7, 8, 0, 9, 10, 11, 0, 12, 13, 14, 0, 15, 17]
  | 10 => [4, 5]
  | 11 => [8, 2, 2, 4, 10, 13, 19, 21, 24, 29, 30, 31, 32, 33, 0, 0, 0, 0]
  | _ => []
def LX : Lay := (fun p => LX_kd.getD p 99, LX_ds, fun p => LX_ln.getD p 0, fun p => if p = 17 then 63 else if p = 25 then 83 else 0, fun k => if k = 1 then 9 else if k = 2 then 9 else if k = 130 then 9 else if k = 257 then 0 else if k = 896 then 9 else if k = 1280 then 9 else 99, 90)
theorem LXok : LOK LX := fun c => by
  show (LX_ds c).length ≤ 128
  unfold LX_ds
  split <;> decide
def LY_kd : List Nat := [12, 13, 13, 13, 13, 13, 13, 13, 13, 13, 13, 13, 13, 13, 13, 13, 13, 13, 14, 14, 14, 13, 13, 15, 13, 13, 13, 13, 13, 13, 13, 13, 13, 13, 14, 13, 13, 13, 13, 13, 13, 13, 13, 13]
def LY_ln : List Nat := [0, 1800, 2, 12, 12, 2, 10, 2, 50, 50, 2, 12, 12, 2, 4, 4, 3200, 3200, 12, 10, 12, 20, 20, 20, 20, 20, 500, 6, 22, 110, 110, 22, 22, 1760, 500, 10, 5, 5, 61, 16, 16, 16, 287, 40]
def LY_ds : Nat → List Nat := fun c => match c with
  | 12 => [4, 0, 0, 0, 0, 0, 0, 1, 0, 0, 0, 0, 0, 0, 5, 6, 7, 8, 9, 10, 11, 12, 13, 14, 15, 16, 17, 18, 19, 20, 21, 22, 23, 0, 0, 0, 24, 25, 26, 27, 28, 0, 0, 29, 0, 0, 30, 31, 32, 33, 34, 35, 36, 0, 0, 1, 37, 38, 39, 40, 41, 0, 42, 43, 44, 45, 46, 0]
  | _ => []
def LY : Lay := (fun p => LY_kd.getD p 99, LY_ds, fun p => LY_ln.getD p 0, fun p =>  0, fun k =>  99, 44)
theorem LYok : LOK LY := fun c => by
  show (LY_ds c).length ≤ 128
  unfold LY_ds
  split <;> decide
theorem pk_lt90 {P : Nat → Prop} [DecidablePred P] {n : Nat} (h : (List.range n).all (fun p => decide (P p)) = true) {p : Nat} (hp : p < n) : P p := by
  have := List.all_eq_true.mp h p (List.mem_range.mpr hp)
  simpa using this
theorem kt_9_1 {p : Nat} (h : isK LX p 9) : isK LX (p + 1) 13 := pk_lt90 (P := fun p => LX_kd.getD p 99 = 9 → LX_kd.getD (p + 1) 99 = 13 ∧ p + 1 < 90) (n := 90) (by decide +kernel) h.2 h.1
theorem lt_9_1 {p : Nat} (h : isK LX p 9) : LX.ln (p + 1) = 6 := pk_lt90 (P := fun p => LX_kd.getD p 99 = 9 → LX_ln.getD (p + 1) 0 = 6) (n := 90) (by decide +kernel) h.2 h.1
theorem kt_9_2 {p : Nat} (h : isK LX p 9) : isK LX (p + 2) 13 := pk_lt90 (P := fun p => LX_kd.getD p 99 = 9 → LX_kd.getD (p + 2) 99 = 13 ∧ p + 2 < 90) (n := 90) (by decide +kernel) h.2 h.1
theorem lt_9_2 {p : Nat} (h : isK LX p 9) : LX.ln (p + 2) = 6 := pk_lt90 (P := fun p => LX_kd.getD p 99 = 9 → LX_ln.getD (p + 2) 0 = 6) (n := 90) (by decide +kernel) h.2 h.1
theorem kt_9_3 {p : Nat} (h : isK LX p 9) : isK LX (p + 3) 13 := pk_lt90 (P := fun p => LX_kd.getD p 99 = 9 → LX_kd.getD (p + 3) 99 = 13 ∧ p + 3 < 90) (n := 90) (by decide +kernel) h.2 h.1
theorem lt_9_3 {p : Nat} (h : isK LX p 9) : LX.ln (p + 3) = 6 := pk_lt90 (P := fun p => LX_kd.getD p 99 = 9 → LX_ln.getD (p + 3) 0 = 6) (n := 90) (by decide +kernel) h.2 h.1
theorem kt_9_4 {p : Nat} (h : isK LX p 9) : isK LX (p + 4) 13 := pk_lt90 (P := fun p => LX_kd.getD p 99 = 9 → LX_kd.getD (p + 4) 99 = 13 ∧ p + 4 < 90) (n := 90) (by decide +kernel) h.2 h.1
theorem lt_9_4 {p : Nat} (h : isK LX p 9) : LX.ln (p + 4) = 5 := pk_lt90 (P := fun p => LX_kd.getD p 99 = 9 → LX_ln.getD (p + 4) 0 = 5) (n := 90) (by decide +kernel) h.2 h.1
theorem kt_9_5 {p : Nat} (h : isK LX p 9) : isK LX (p + 5) 13 := pk_lt90 (P := fun p => LX_kd.getD p 99 = 9 → LX_kd.getD (p + 5) 99 = 13 ∧ p + 5 < 90) (n := 90) (by decide +kernel) h.2 h.1
theorem lt_9_5 {p : Nat} (h : isK LX p 9) : LX.ln (p + 5) = 5 := pk_lt90 (P := fun p => LX_kd.getD p 99 = 9 → LX_ln.getD (p + 5) 0 = 5) (n := 90) (by decide +kernel) h.2 h.1
theorem kt_9_6 {p : Nat} (h : isK LX p 9) : isK LX (p + 6) 13 := pk_lt90 (P := fun p => LX_kd.getD p 99 = 9 → LX_kd.getD (p + 6) 99 = 13 ∧ p + 6 < 90) (n := 90) (by decide +kernel) h.2 h.1
theorem lt_9_6 {p : Nat} (h : isK LX p 9) : LX.ln (p + 6) = 10 := pk_lt90 (P := fun p => LX_kd.getD p 99 = 9 → LX_ln.getD (p + 6) 0 = 10) (n := 90) (by decide +kernel) h.2 h.1
theorem kt_9_7 {p : Nat} (h : isK LX p 9) : isK LX (p + 7) 13 := pk_lt90 (P := fun p => LX_kd.getD p 99 = 9 → LX_kd.getD (p + 7) 99 = 13 ∧ p + 7 < 90) (n := 90) (by decide +kernel) h.2 h.1
theorem lt_9_7 {p : Nat} (h : isK LX p 9) : LX.ln (p + 7) = 10 := pk_lt90 (P := fun p => LX_kd.getD p 99 = 9 → LX_ln.getD (p + 7) 0 = 10) (n := 90) (by decide +kernel) h.2 h.1
theorem kt_9_8 {p : Nat} (h : isK LX p 9) : isK LX (p + 8) 13 := pk_lt90 (P := fun p => LX_kd.getD p 99 = 9 → LX_kd.getD (p + 8) 99 = 13 ∧ p + 8 < 90) (n := 90) (by decide +kernel) h.2 h.1
theorem lt_9_8 {p : Nat} (h : isK LX p 9) : LX.ln (p + 8) = 10 := pk_lt90 (P := fun p => LX_kd.getD p 99 = 9 → LX_ln.getD (p + 8) 0 = 10) (n := 90) (by decide +kernel) h.2 h.1
theorem kt_9_9 {p : Nat} (h : isK LX p 9) : isK LX (p + 9) 13 := pk_lt90 (P := fun p => LX_kd.getD p 99 = 9 → LX_kd.getD (p + 9) 99 = 13 ∧ p + 9 < 90) (n := 90) (by decide +kernel) h.2 h.1
theorem lt_9_9 {p : Nat} (h : isK LX p 9) : LX.ln (p + 9) = 6 := pk_lt90 (P := fun p => LX_kd.getD p 99 = 9 → LX_ln.getD (p + 9) 0 = 6) (n := 90) (by decide +kernel) h.2 h.1
theorem kt_9_10 {p : Nat} (h : isK LX p 9) : isK LX (p + 10) 13 := pk_lt90 (P := fun p => LX_kd.getD p 99 = 9 → LX_kd.getD (p + 10) 99 = 13 ∧ p + 10 < 90) (n := 90) (by decide +kernel) h.2 h.1
theorem lt_9_10 {p : Nat} (h : isK LX p 9) : LX.ln (p + 10) = 6 := pk_lt90 (P := fun p => LX_kd.getD p 99 = 9 → LX_ln.getD (p + 10) 0 = 6) (n := 90) (by decide +kernel) h.2 h.1
theorem kt_9_11 {p : Nat} (h : isK LX p 9) : isK LX (p + 11) 13 := pk_lt90 (P := fun p => LX_kd.getD p 99 = 9 → LX_kd.getD (p + 11) 99 = 13 ∧ p + 11 < 90) (n := 90) (by decide +kernel) h.2 h.1
theorem lt_9_11 {p : Nat} (h : isK LX p 9) : LX.ln (p + 11) = 6 := pk_lt90 (P := fun p => LX_kd.getD p 99 = 9 → LX_ln.getD (p + 11) 0 = 6) (n := 90) (by decide +kernel) h.2 h.1
theorem kt_9_12 {p : Nat} (h : isK LX p 9) : isK LX (p + 12) 0 := pk_lt90 (P := fun p => LX_kd.getD p 99 = 9 → LX_kd.getD (p + 12) 99 = 0 ∧ p + 12 < 90) (n := 90) (by decide +kernel) h.2 h.1
theorem kt_9_14 {p : Nat} (h : isK LX p 9) : isK LX (p + 14) 0 := pk_lt90 (P := fun p => LX_kd.getD p 99 = 9 → LX_kd.getD (p + 14) 99 = 0 ∧ p + 14 < 90) (n := 90) (by decide +kernel) h.2 h.1
theorem kt_0_1 {p : Nat} (h : isK LX p 0) : isK LX (p + 1) 13 := pk_lt90 (P := fun p => LX_kd.getD p 99 = 0 → LX_kd.getD (p + 1) 99 = 13 ∧ p + 1 < 90) (n := 90) (by decide +kernel) h.2 h.1
theorem lt_0_1 {p : Nat} (h : isK LX p 0) : LX.ln (p + 1) = 1600 := pk_lt90 (P := fun p => LX_kd.getD p 99 = 0 → LX_ln.getD (p + 1) 0 = 1600) (n := 90) (by decide +kernel) h.2 h.1
theorem kg_17 : ∀ j, j < 20 → isK LX (63 + j) 13 := fun _ h => pk_lt90 (P := fun j => LX_kd.getD (63 + j) 99 = 13 ∧ 63 + j < 90) (n := 20) (by decide +kernel) h
theorem kg_25 : ∀ j, j < 7 → isK LX (83 + j) 13 := fun _ h => pk_lt90 (P := fun j => LX_kd.getD (83 + j) 99 = 13 ∧ 83 + j < 90) (n := 7) (by decide +kernel) h
