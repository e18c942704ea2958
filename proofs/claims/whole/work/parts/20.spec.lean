/-! WHAT THE METHODS OF Cells COME TO -/
theorem fl_ifp {α : Type} {b : Bool} (h : b = true) (x y : α) : (if b = true then x else y) = x := if_pos h
theorem fl_ifd {α : Type} {p : Prop} [Decidable p] (h : p) (x y : α) : (if decide p = true then x else y) = x := if_pos (decide_eq_true h)
theorem fl_ifn {α : Type} {p : Prop} [Decidable p] (h : ¬ p) (x y : α) : (if decide p = true then x else y) = y := if_neg (fun z => h (of_decide_eq_true z))
/-- a Cells at a, its numbers at q, n of them -/
def fl_cells (h : fl_H) (a q n : Nat) : Prop := fl_k h a = (1, 1) ∧ fl_r h a 0 = some q ∧ fl_k h q = (3, n) ∧ n < 100000
theorem fl_i32_lt0 (i : Int32) : i < 0 ↔ i.toInt < 0 := by
  rw [Int32.lt_iff_toInt_lt]; rfl
theorem fl_i32_nat {i : Int32} (h : ¬ i < 0) : (i.toNatClampNeg : Int) = i.toInt := by
  rw [fl_i32_lt0] at h
  show ((i.toInt.toNat : Nat) : Int) = i.toInt
  omega
theorem fl_i32_ofNat {n : Nat} (h : n < 100000) : (Int32.ofNat n).toInt = (n : Int) := Int32.toInt_ofNat_of_lt (by omega)
theorem fl_i32_le {i : Int32} {n : Nat} (h : ¬ i < 0) (hn : n < 100000) : Int32.ofNat n ≤ i ↔ n ≤ i.toNatClampNeg := by
  have h1 := fl_i32_nat h
  rw [Int32.le_iff_toInt_le, fl_i32_ofNat hn]
  omega
theorem fl_in_iff {i : Int32} {n : Nat} : fl_in i n = true ↔ ¬ i < 0 ∧ i.toNatClampNeg < n := by
  unfold fl_in
  simp only [Bool.not_eq_true', Bool.or_eq_false_iff, decide_eq_false_iff_not, Nat.not_le]
theorem fl_cells_at {h : fl_H} {a q n : Nat} (hc : fl_cells h a q n) (i : Int32) : fl_cl fl_C 105 [.ref a, .int i] h = some (some (some (.long (if fl_in i n = true then fl_l h q i.toNatClampNeg else 0))), h) := by
  obtain ⟨h1, h2, h3, h4⟩ := hc
  rw [fbE_105, h1, h2]
  simp only [Option.getD_some, Option.isSome_some, h3, fbC_105_22]
  by_cases hi : i < 0
  · rw [fl_ifd hi, if_neg (fun z => (fl_in_iff.mp z).1 hi)]
  · rw [fl_ifn hi]
    by_cases hn : n ≤ i.toNatClampNeg
    · simp [(fl_i32_le hi h4).mpr hn, fl_in, hn]
    · have hq : ¬ Int32.ofNat n ≤ i := fun z => hn ((fl_i32_le hi h4).mp z)
      simp [hq, fl_in, hi, hn]
theorem fl_cells_int {h : fl_H} {a q n : Nat} (hc : fl_cells h a q n) (i : Int32) : fl_cl fl_C 24 [.ref a, .int i] h = some (some (some (.int (if fl_in i n = true then (fl_l h q i.toNatClampNeg).toInt32 else 0))), h) := by
  obtain ⟨h1, h2, h3, h4⟩ := hc
  rw [fbE_24, h1, h2]
  simp only [Option.getD_some, Option.isSome_some, h3, fbC_24_23]
  by_cases hi : i < 0
  · rw [fl_ifd hi, if_neg (fun z => (fl_in_iff.mp z).1 hi)]
  · rw [fl_ifn hi]
    by_cases hn : n ≤ i.toNatClampNeg
    · simp [(fl_i32_le hi h4).mpr hn, fl_in, hn]
    · have hq : ¬ Int32.ofNat n ≤ i := fun z => hn ((fl_i32_le hi h4).mp z)
      simp [hq, fl_in, hi, hn]
theorem fl_cells_put {h : fl_H} {a q n : Nat} (hc : fl_cells h a q n) (i : Int32) (v : Int64) : fl_cl fl_C 20 [.ref a, .int i, .long v] h = some (some none, if fl_in i n = true then fl_sl h q i.toNatClampNeg v else h) := by
  obtain ⟨h1, h2, h3, h4⟩ := hc
  rw [fbE_20, h1, h2]
  simp only [Option.getD_some, Option.isSome_some, h3, fbC_20_20]
  by_cases hi : i < 0
  · rw [fl_ifd hi, if_neg (fun z => (fl_in_iff.mp z).1 hi)]
  · rw [fl_ifn hi]
    by_cases hn : n ≤ i.toNatClampNeg
    · simp [(fl_i32_le hi h4).mpr hn, fl_in, hn]
    · have hq : ¬ Int32.ofNat n ≤ i := fun z => hn ((fl_i32_le hi h4).mp z)
      simp [hq, fl_in, hi, hn]
/-- the numbers of an array, all at once -/
def fl_wl (h : fl_H) (q : Nat) (g : Nat → Int64) : fl_H := (h.1, h.2.1, h.2.2.1, h.2.2.2.1, fun b => if b = q then g else fl_l h b)
theorem fl_wl_k {h : fl_H} {q : Nat} {g : Nat → Int64} : fl_k (fl_wl h q g) = fl_k h ∧ fl_r (fl_wl h q g) = fl_r h ∧ fl_i (fl_wl h q g) = fl_i h ∧ (fl_wl h q g).1 = h.1 := ⟨rfl, rfl, rfl, rfl⟩
theorem fl_wl_l {h : fl_H} {q : Nat} {g : Nat → Int64} (b : Nat) : fl_l (fl_wl h q g) b = if b = q then g else fl_l h b := rfl
theorem fl_H_ext {h h' : fl_H} (h1 : h.1 = h'.1) (h2 : fl_k h = fl_k h') (h3 : fl_r h = fl_r h') (h4 : fl_i h = fl_i h') (h5 : fl_l h = fl_l h') : h = h' := by
  obtain ⟨a, b, c, d, e⟩ := h
  obtain ⟨a', b', c', d', e'⟩ := h'
  cases h1; cases h2; cases h3; cases h4; cases h5
  rfl
theorem fl_wl_self {h : fl_H} {q : Nat} {g : Nat → Int64} (hg : g = fl_l h q) : fl_wl h q g = h := by
  refine fl_H_ext rfl rfl rfl rfl ?_
  funext b
  rw [fl_wl_l]
  by_cases e : b = q
  · rw [if_pos e, hg, e]
  · rw [if_neg e]
theorem fl_wl_wl {h : fl_H} {q : Nat} {f g : Nat → Int64} : fl_wl (fl_wl h q f) q g = fl_wl h q g := by
  refine fl_H_ext rfl rfl rfl rfl ?_
  funext b
  rw [fl_wl_l, fl_wl_l, fl_wl_l]
  by_cases e : b = q
  · rw [if_pos e, if_pos e]
  · rw [if_neg e, if_neg e, if_neg e]
theorem fl_wl_comm {h : fl_H} {q r : Nat} {f g : Nat → Int64} (hn : q ≠ r) : fl_wl (fl_wl h q f) r g = fl_wl (fl_wl h r g) q f := by
  refine fl_H_ext rfl rfl rfl rfl ?_
  funext b
  rw [fl_wl_l, fl_wl_l, fl_wl_l, fl_wl_l]
  by_cases e : b = r
  · rw [if_pos e, if_neg (fun z => hn (z.symm.trans e)), if_pos e]
  · rw [if_neg e, if_neg e]
theorem fl_sl_wl {h : fl_H} {q j : Nat} {v : Int64} : fl_sl h q j v = fl_wl h q (fun k => if k = j then v else fl_l h q k) := by
  refine fl_H_ext rfl rfl rfl rfl ?_
  funext b
  rw [fl_wl_l]
  by_cases e : b = q
  · rw [if_pos e, e]
    exact fl_u_self _ _ _ _
  · rw [if_neg e]
    exact fl_u_ne _ _ _ e
theorem fl_cells_wl {h : fl_H} {a q n r : Nat} {g : Nat → Int64} (hc : fl_cells h a q n) : fl_cells (fl_wl h r g) a q n := hc
theorem fl_ofN {k : Nat} (hk : k < 100000) : (Int32.ofNat k).toNatClampNeg = k ∧ ¬ Int32.ofNat k < 0 := by
  have h1 := fl_i32_ofNat hk
  constructor
  · show (Int32.ofNat k).toInt.toNat = k
    rw [h1]; rfl
  · rw [fl_i32_lt0, h1]; omega
theorem fl_in_of {k n : Nat} (hk : k < 100000) : fl_in (Int32.ofNat k) n = decide (k < n) := by
  obtain ⟨h1, h2⟩ := fl_ofN hk
  by_cases h : k < n
  · rw [decide_eq_true h]; exact fl_in_iff.mpr ⟨h2, by rw [h1]; exact h⟩
  · rw [decide_eq_false h]
    cases hz : fl_in (Int32.ofNat k) n with
    | false => rfl
    | true => exact absurd (by rw [← h1]; exact (fl_in_iff.mp hz).2) h
theorem fl_succ {k : Nat} : Int32.ofNat k + 1 = Int32.ofNat (k + 1) := (Int32.ofNat_add k 1).symm
theorem fl_cells_fill {h : fl_H} {a q n : Nat} (hc : fl_cells h a q n) (v : Int64) : fl_cl fl_C 205 [.ref a, .long v] h = some (some none, fl_wl h q (fun j => if j < n then v else fl_l h q j)) := by
  have key : ∀ (m k : Nat) (h : fl_H), k + m = n → fl_cells h a q n → fl_Rn fl_C 205 2 [some (.ref a), some (.long v), none, some (.int (Int32.ofNat k))] [] h = some (some none, fl_wl h q (fun j => if k ≤ j ∧ j < n then v else fl_l h q j)) := by
    intro m
    induction m with
    | zero =>
      intro k h hk hc
      obtain ⟨h1, h2, h3, h4⟩ := id hc
      have h5 : Int32.ofNat n ≤ Int32.ofNat k := (fl_i32_le (fl_ofN (by omega)).2 h4).mpr (by rw [(fl_ofN (by omega)).1]; omega)
      rw [fbC_205_2, h1, h2]
      simp only [Option.getD_some, Option.isSome_some, h3]
      simp only [h5, decide_true, Bool.and_true, if_true]
      rw [fl_wl_self]
      funext j
      rw [if_neg (by omega)]
    | succ m ih =>
      intro k h hk hc
      obtain ⟨h1, h2, h3, h4⟩ := id hc
      have h5 : ¬ Int32.ofNat n ≤ Int32.ofNat k := fun z => by
        have := (fl_i32_le (fl_ofN (by omega)).2 h4).mp z
        rw [(fl_ofN (by omega)).1] at this
        omega
      rw [fbC_205_2, h1, h2]
      simp only [Option.getD_some, Option.isSome_some, h3]
      simp only [h5, decide_true, decide_false, Bool.and_true, Bool.true_and, if_true, fl_in_of (show k < 100000 by omega), show k < n by omega, Bool.false_eq_true, if_false]
      rw [fbC_205_18, fl_succ, (fl_ofN (show k < 100000 by omega)).1, fl_sl_wl, ih (k + 1) _ (by omega) (fl_cells_wl hc), fl_wl_wl]
      congr 3
      funext j
      rw [fl_wl_l, if_pos rfl]
      by_cases e : j = k
      · subst e; rw [if_neg (by omega), if_pos rfl, if_pos (by omega)]
      · by_cases e2 : k + 1 ≤ j ∧ j < n
        · rw [if_pos e2, if_pos (by omega)]
        · rw [if_neg e2, if_neg e, if_neg (by omega)]
  rw [fbE_205]
  have := key n 0 h (by omega) hc
  rw [show (0 : Int32) = Int32.ofNat 0 from rfl, this]
  congr 3
  funext j
  by_cases e : j < n
  · rw [if_pos ⟨Nat.zero_le _, e⟩, if_pos e]
  · rw [if_neg (fun z => e z.2), if_neg e]
