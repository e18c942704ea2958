/-! WHAT THE METHODS OF Cells COME TO -/
theorem fl_ifp {α : Type} {b : Bool} (h : b = true) (x y : α) : (if b = true then x else y) = x := if_pos h
theorem fl_ifd {α : Type} {p : Prop} [Decidable p] (h : p) (x y : α) : (if decide p = true then x else y) = x := if_pos (decide_eq_true h)
theorem fl_ifn {α : Type} {p : Prop} [Decidable p] (h : ¬ p) (x y : α) : (if decide p = true then x else y) = y := if_neg (fun z => h (of_decide_eq_true z))
/-- a Cells at a, its numbers at q, n of them -/
def fl_cells (h : fl_H) (a q n : Nat) : Prop := fl_k h a = (1, 1) ∧ fl_r h a 0 = some q ∧ fl_k h q = (3, n) ∧ n < 100000
theorem fl_i32_lt0 (i : Int32) : i < 0 ↔ i.toInt < 0 := by
  rw [Int32.lt_iff_toInt_lt]; rfl
theorem fl_i32_nat {i : Int32} (h : ¬ i < 0) : (i.toNatClampNeg : Int) = i.toInt := by
  rw [fl_i32_lt0] at h
  show ((i.toInt.toNat : Nat) : Int) = i.toInt
  omega
theorem fl_i32_ofNat {n : Nat} (h : n < 100000) : (Int32.ofNat n).toInt = (n : Int) := Int32.toInt_ofNat_of_lt (by omega)
theorem fl_i32_le {i : Int32} {n : Nat} (h : ¬ i < 0) (hn : n < 100000) : Int32.ofNat n ≤ i ↔ n ≤ i.toNatClampNeg := by
  have h1 := fl_i32_nat h
  rw [Int32.le_iff_toInt_le, fl_i32_ofNat hn]
  omega
theorem fl_in_iff {i : Int32} {n : Nat} : fl_in i n = true ↔ ¬ i < 0 ∧ i.toNatClampNeg < n := by
  unfold fl_in
  simp only [Bool.not_eq_true', Bool.or_eq_false_iff, decide_eq_false_iff_not, Nat.not_le]
theorem fl_cells_at {h : fl_H} {a q n : Nat} (hc : fl_cells h a q n) (i : Int32) : fl_cl fl_C 105 [.ref a, .int i] h = some (some (some (.long (if fl_in i n = true then fl_l h q i.toNatClampNeg else 0))), h) := by
  obtain ⟨h1, h2, h3, h4⟩ := hc
  rw [fbE_105, h1, h2]
  simp only [Option.getD_some, Option.isSome_some, h3, fbC_105_22]
  by_cases hi : i < 0
  · rw [fl_ifd hi, if_neg (fun z => (fl_in_iff.mp z).1 hi)]
  · rw [fl_ifn hi]
    by_cases hn : n ≤ i.toNatClampNeg
    · simp [(fl_i32_le hi h4).mpr hn, fl_in, hn]
    · simp [fun z => hn ((fl_i32_le hi h4).mp z), fl_in, hi, hn]
theorem fl_cells_int {h : fl_H} {a q n : Nat} (hc : fl_cells h a q n) (i : Int32) : fl_cl fl_C 24 [.ref a, .int i] h = some (some (some (.int (if fl_in i n = true then (fl_l h q i.toNatClampNeg).toInt32 else 0))), h) := by
  obtain ⟨h1, h2, h3, h4⟩ := hc
  rw [fbE_24, h1, h2]
  simp only [Option.getD_some, Option.isSome_some, h3, fbC_24_23]
  by_cases hi : i < 0
  · rw [fl_ifd hi, if_neg (fun z => (fl_in_iff.mp z).1 hi)]
  · rw [fl_ifn hi]
    by_cases hn : n ≤ i.toNatClampNeg
    · simp [(fl_i32_le hi h4).mpr hn, fl_in, hn]
    · simp [fun z => hn ((fl_i32_le hi h4).mp z), fl_in, hi, hn]
theorem fl_cells_put {h : fl_H} {a q n : Nat} (hc : fl_cells h a q n) (i : Int32) (v : Int64) : fl_cl fl_C 20 [.ref a, .int i, .long v] h = some (some none, if fl_in i n = true then fl_sl h q i.toNatClampNeg v else h) := by
  obtain ⟨h1, h2, h3, h4⟩ := hc
  rw [fbE_20, h1, h2]
  simp only [Option.getD_some, Option.isSome_some, h3, fbC_20_20]
  by_cases hi : i < 0
  · rw [fl_ifd hi, if_neg (fun z => (fl_in_iff.mp z).1 hi)]
  · rw [fl_ifn hi]
    by_cases hn : n ≤ i.toNatClampNeg
    · simp [(fl_i32_le hi h4).mpr hn, fl_in, hn]
    · simp [fun z => hn ((fl_i32_le hi h4).mp z), fl_in, hi, hn]
