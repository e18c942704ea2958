/-! THE REFERENCE, its readers -/
abbrev fl_mm (h : fl_H) (g : Nat → Nat) : Prop := ∀ j, j < 126 → fl_i h 262 j = Int32.ofNat (g j)
theorem fl_toI64 (k : Int32) : (Int32.toInt64 k).toInt = k.toInt := Int32.toInt_toInt64 k
theorem fl_in64 {n : Nat} (hn : n < 2147483648) (k : Int32) : (0 ≤ Int32.toInt64 k ∧ Int32.toInt64 k ≤ Int32.toInt64 (Int32.ofNat n - Int32.ofNat 1)) ↔ fl_in k n = true := by
  rw [fl_in_iff, Int64.le_iff_toInt_le, Int64.le_iff_toInt_le, fl_toI64, fl_toI64, fl_i32_lt0, show (0 : Int64).toInt = 0 from rfl]
  have h3 : (k.toNatClampNeg : Nat) = k.toInt.toNat := rfl
  by_cases h : n = 0
  · subst h
    rw [show (Int32.ofNat 0 - Int32.ofNat 1).toInt = -1 from by decide]
    omega
  · rw [fl_nsub (show 1 ≤ n by omega), fl_toI (show n - 1 < 2147483648 by omega)]
    omega
theorem fl_in_ex {k : Int32} {n : Nat} (h : fl_in k n = true) : ∃ j, j < n ∧ k = Int32.ofNat j := by
  obtain ⟨h1, h2⟩ := fl_in_iff.mp h
  refine ⟨k.toNatClampNeg, h2, ?_⟩
  have h3 := fl_i32_nat h1
  have h4 : k.toInt < 2147483648 := Int32.toInt_lt k
  apply Int32.toInt_inj.mp
  rw [fl_toI (by omega)]
  exact h3.symm
theorem fr_37 {h : fl_H} (a b c : Int64) : fl_cl fl_C 37 [.long a, .long b, .long c] h = some (some (some (.int (if b ≤ a ∧ a ≤ c then Int32.ofNat 1 else Int32.ofNat 0))), h) := by
  rw [fbE_37, fbC_37_17]
  simp only [lg_cmp_lt, lg_cmp_gt]
  by_cases h1 : a < b
  · rw [fl_ifd h1, if_neg (fun z => lg_lt_not_le h1 z.1)]; rfl
  · rw [fl_ifn h1]
    have h1' : b ≤ a := Int64.not_lt.mp h1
    by_cases h2 : c < a
    · rw [fl_ifd h2, if_neg (fun z => lg_lt_not_le h2 z.2)]; rfl
    · rw [fl_ifn h2, if_pos ⟨h1', Int64.not_lt.mp h2⟩]; rfl
theorem fr_79 {h : fl_H} (x : Int32) : fl_cl fl_C 79 [.int x] h = some (some (some (.int (if x = Int32.ofNat 0 then Int32.ofNat 0 else Int32.ofNat 1))), h) := by
  rw [fbE_79]
  by_cases e : x = 0
  · rw [fl_ifd e, if_pos (show x = Int32.ofNat 0 from e)]; rfl
  · rw [fl_ifn e, if_neg (show ¬ x = Int32.ofNat 0 from e)]; rfl
theorem fr_95 {k0 : Nat → Nat × Nat} {h : fl_H} {g : Nat → Nat} (hg : fl_g k0 h) (m : fl_mm h g) : fl_cl fl_C 95 [.ref 259] h = some (some (some (.int (Int32.ofNat (g 0)))), h) := by
  rw [fbE_95]
  simp (disch := omega) only [hg.1, hg.2, fl_KM, fl_RM, fl_lit, fl_nadd, fl_nmul, fl_ndiv, fl_nsub, fl_msub, fl_nle, fl_nlt, fl_neq, fl_nclamp, fl_nin, fl_ltT, fl_ltF, fl_leT, fl_leF, fl_eqT, fl_eqF, decide_true, decide_false, Bool.true_and, Bool.and_true, Bool.false_and, Bool.and_false, if_true, if_false, Bool.false_eq_true, Option.isSome_some, Option.getD_some, not_true_eq_false, not_false_eq_true, Option.toList_some, Option.toList_none, List.cons_append, List.nil_append, m]
theorem fr_129 {k0 : Nat → Nat × Nat} {h : fl_H} {g : Nat → Nat} (hg : fl_g k0 h) (m : fl_mm h g) : fl_cl fl_C 129 [.ref 259] h = some (some (some (.int (Int32.ofNat (g 1)))), h) := by
  rw [fbE_129]
  simp (disch := omega) only [hg.1, hg.2, fl_KM, fl_RM, fl_lit, fl_nadd, fl_nmul, fl_ndiv, fl_nsub, fl_msub, fl_nle, fl_nlt, fl_neq, fl_nclamp, fl_nin, fl_ltT, fl_ltF, fl_leT, fl_leF, fl_eqT, fl_eqF, decide_true, decide_false, Bool.true_and, Bool.and_true, Bool.false_and, Bool.and_false, if_true, if_false, Bool.false_eq_true, Option.isSome_some, Option.getD_some, not_true_eq_false, not_false_eq_true, Option.toList_some, Option.toList_none, List.cons_append, List.nil_append, m]
theorem fr_130 {k0 : Nat → Nat × Nat} {h : fl_H} {g : Nat → Nat} (hg : fl_g k0 h) (m : fl_mm h g) : fl_cl fl_C 130 [.ref 259] h = some (some (some (.int (Int32.ofNat (g 76)))), h) := by
  rw [fbE_130]
  simp (disch := omega) only [hg.1, hg.2, fl_KM, fl_RM, fl_lit, fl_nadd, fl_nmul, fl_ndiv, fl_nsub, fl_msub, fl_nle, fl_nlt, fl_neq, fl_nclamp, fl_nin, fl_ltT, fl_ltF, fl_leT, fl_leF, fl_eqT, fl_eqF, decide_true, decide_false, Bool.true_and, Bool.and_true, Bool.false_and, Bool.and_false, if_true, if_false, Bool.false_eq_true, Option.isSome_some, Option.getD_some, not_true_eq_false, not_false_eq_true, Option.toList_some, Option.toList_none, List.cons_append, List.nil_append, m]
theorem fr_88 {k0 : Nat → Nat × Nat} {h : fl_H} {g : Nat → Nat} (hg : fl_g k0 h) (m : fl_mm h g) : fl_cl fl_C 88 [.ref 259] h = some (some (some (.int (Int32.ofNat (2 * (g 0 + g 2))))), h) := by
  rw [fbE_88]
  simp (disch := omega) only [hg.1, hg.2, fl_KM, fl_RM, fl_lit, fl_nadd, fl_nmul, fl_ndiv, fl_nsub, fl_msub, fl_nle, fl_nlt, fl_neq, fl_nclamp, fl_nin, fl_ltT, fl_ltF, fl_leT, fl_leF, fl_eqT, fl_eqF, decide_true, decide_false, Bool.true_and, Bool.and_true, Bool.false_and, Bool.and_false, if_true, if_false, Bool.false_eq_true, Option.isSome_some, Option.getD_some, not_true_eq_false, not_false_eq_true, Option.toList_some, Option.toList_none, List.cons_append, List.nil_append, m]
theorem fr_96 {k0 : Nat → Nat × Nat} {h : fl_H} {g : Nat → Nat} (hg : fl_g k0 h) (m : fl_mm h g) (w : g 0 ≤ 12) (k : Int32) : fl_cl fl_C 96 [.ref 259, .int k] h = some (some (some (.int (if fl_in k (g 0) = true then Int32.ofNat 1 else Int32.ofNat 0))), h) := by
  rw [fbE_96, hg.1, fr_95 hg m, fbP_96_7, fr_37, fbP_96_13]
  simp only [fl_KM, fl_RM, decide_true, Bool.and_true, if_true]
  have e := fl_in64 (show g 0 < 2147483648 by omega) k
  rw [show (1 : Int32) = Int32.ofNat 1 from rfl]
  by_cases c : fl_in k (g 0) = true
  · rw [if_pos (e.mpr c), if_pos c]; rfl
  · rw [if_neg (fun z => c (e.mp z)), if_neg c]; rfl
theorem fr_164 {k0 : Nat → Nat × Nat} {h : fl_H} {g : Nat → Nat} (hg : fl_g k0 h) (m : fl_mm h g) (w : g 0 ≤ 12) (w2 : g 2 ≤ 20) (k : Int32) : fl_cl fl_C 164 [.ref 259, .int k] h = some (some (some (.int (if fl_in k (2 * (g 0 + g 2)) = true then Int32.ofNat 1 else Int32.ofNat 0))), h) := by
  rw [fbE_164, hg.1, fr_88 hg m, fbP_164_7, fr_37, fbP_164_13]
  simp only [fl_KM, fl_RM, decide_true, Bool.and_true, if_true]
  have e := fl_in64 (show 2 * (g 0 + g 2) < 2147483648 by omega) k
  rw [show (1 : Int32) = Int32.ofNat 1 from rfl]
  by_cases c : fl_in k (2 * (g 0 + g 2)) = true
  · rw [if_pos (e.mpr c), if_pos c]; rfl
  · rw [if_neg (fun z => c (e.mp z)), if_neg c]; rfl
theorem fr_97 {k0 : Nat → Nat × Nat} {h : fl_H} {g : Nat → Nat} (hg : fl_g k0 h) (m : fl_mm h g) (b : ∀ j, j < 126 → g j < 256) {k : Nat} (hk : k < 12) : fl_cl fl_C 97 [.ref 259, .int (Int32.ofNat k)] h = some (some (some (.int (if g (4 + k) = 8 then Int32.ofNat 1 else Int32.ofNat 0))), h) := by
  have := b (4 + k) (by omega)
  rw [fbE_97, fbC_97_7]
  simp (disch := omega) only [hg.1, hg.2, fl_KM, fl_RM, fl_lit, fl_nadd, fl_nmul, fl_ndiv, fl_nsub, fl_msub, fl_nle, fl_nlt, fl_neq, fl_nclamp, fl_nin, fl_ltT, fl_ltF, fl_leT, fl_leF, fl_eqT, fl_eqF, decide_true, decide_false, Bool.true_and, Bool.and_true, Bool.false_and, Bool.and_false, if_true, if_false, Bool.false_eq_true, Option.isSome_some, Option.getD_some, not_true_eq_false, not_false_eq_true, Option.toList_some, Option.toList_none, List.cons_append, List.nil_append, m]
  by_cases c : g (4 + k) = 8
  · simp [c]
  · simp [c]
theorem fr_98 {k0 : Nat → Nat × Nat} {h : fl_H} {g : Nat → Nat} (hg : fl_g k0 h) (m : fl_mm h g) (b : ∀ j, j < 126 → g j < 256) (w : g 3 ≤ 4) {k : Nat} (hk : k < 256) : fl_cl fl_C 98 [.ref 259, .int (Int32.ofNat k)] h = some (some (some (.int (if fl_any (fun j => decide (g (72 + j) = k)) (g 3) = true then Int32.ofNat 1 else Int32.ofNat 0))), h) := by
  rw [fbE_98]
  have := fl_find (fun j => fl_Rn fl_C 98 2 [some (.ref 259), some (.int (Int32.ofNat k)), some (.int (Int32.ofNat j))] [] h) (some (some (some (.int (Int32.ofNat 1))), h)) (fun j => decide (g (72 + j) = k)) (g 3) (by
    intro j hj
    have := b (72 + j) (by omega)
    rw [fbC_98_2, fbC_98_20]
    simp (disch := omega) only [hg.1, hg.2, fl_KM, fl_RM, fl_lit, fl_nadd, fl_nmul, fl_ndiv, fl_nsub, fl_msub, fl_nle, fl_nlt, fl_neq, fl_nclamp, fl_nin, fl_ltT, fl_ltF, fl_leT, fl_leF, fl_eqT, fl_eqF, decide_true, decide_false, Bool.true_and, Bool.and_true, Bool.false_and, Bool.and_false, if_true, if_false, Bool.false_eq_true, Option.isSome_some, Option.getD_some, not_true_eq_false, not_false_eq_true, Option.toList_some, Option.toList_none, List.cons_append, List.nil_append, m]
    by_cases c : g (72 + j) = k
    · simp [c]
    · simp [c])
  refine this.trans ?_
  have e : fl_Rn fl_C 98 2 [some (.ref 259), some (.int (Int32.ofNat k)), some (.int (Int32.ofNat (g 3)))] [] h = some (some (some (.int (Int32.ofNat 0))), h) := by
    rw [fbC_98_2]
    simp (disch := omega) only [hg.1, hg.2, fl_KM, fl_RM, fl_lit, fl_nadd, fl_nmul, fl_ndiv, fl_nsub, fl_msub, fl_nle, fl_nlt, fl_neq, fl_nclamp, fl_nin, fl_ltT, fl_ltF, fl_leT, fl_leF, fl_eqT, fl_eqF, decide_true, decide_false, Bool.true_and, Bool.and_true, Bool.false_and, Bool.and_false, if_true, if_false, Bool.false_eq_true, Option.isSome_some, Option.getD_some, not_true_eq_false, not_false_eq_true, Option.toList_some, Option.toList_none, List.cons_append, List.nil_append, m]
  try dsimp only
  rw [e]
  split <;> rfl
theorem fr_99 {k0 : Nat → Nat × Nat} {h : fl_H} {g : Nat → Nat} (hg : fl_g k0 h) (m : fl_mm h g) (b : ∀ j, j < 126 → g j < 256) (w : g 2 ≤ 20) {k : Nat} (hk : k < 256) : fl_cl fl_C 99 [.ref 259, .int (Int32.ofNat k)] h = some (some (some (.int (Int32.ofNat (fl_cnt (fun p => decide (g (52 + p) = k)) (g 2))))), h) := by
  rw [fbE_99]
  have := fl_iter (fun j => fl_Rn fl_C 99 4 [some (.ref 259), some (.int (Int32.ofNat k)), some (.int (Int32.ofNat (fl_cnt (fun p => decide (g (52 + p) = k)) j))), some (.int (Int32.ofNat j))] [] h) (g 2) (by
    intro j hj
    have := b (52 + j) (by omega)
    try dsimp only
    rw [fbC_99_4, fbC_99_23]
    simp (disch := omega) only [hg.1, hg.2, fl_KM, fl_RM, fl_lit, fl_nadd, fl_nmul, fl_ndiv, fl_nsub, fl_msub, fl_nle, fl_nlt, fl_neq, fl_nclamp, fl_nin, fl_ltT, fl_ltF, fl_leT, fl_leF, fl_eqT, fl_eqF, decide_true, decide_false, Bool.true_and, Bool.and_true, Bool.false_and, Bool.and_false, if_true, if_false, Bool.false_eq_true, Option.isSome_some, Option.getD_some, not_true_eq_false, not_false_eq_true, Option.toList_some, Option.toList_none, List.cons_append, List.nil_append, m]
    by_cases c : g (52 + j) = k
    · simp (disch := omega) only [c, fl_lit, fl_nadd, fl_nmul, fl_ndiv, fl_nsub, fl_msub, fl_nle, fl_nlt, fl_neq, fl_nclamp, fl_nin, fl_ltT, fl_ltF, fl_leT, fl_leF, fl_eqT, fl_eqF, decide_true, decide_false, Bool.true_and, Bool.and_true, Bool.false_and, Bool.and_false, if_true, if_false, Bool.false_eq_true, Option.isSome_some, Option.getD_some, not_true_eq_false, not_false_eq_true, Option.toList_some, Option.toList_none, List.cons_append, List.nil_append, fr_79, fbP_99_36, fl_cnt, Bool.toNat_true]
    · simp (disch := omega) only [c, fl_lit, fl_nadd, fl_nmul, fl_ndiv, fl_nsub, fl_msub, fl_nle, fl_nlt, fl_neq, fl_nclamp, fl_nin, fl_ltT, fl_ltF, fl_leT, fl_leF, fl_eqT, fl_eqF, decide_true, decide_false, Bool.true_and, Bool.and_true, Bool.false_and, Bool.and_false, if_true, if_false, Bool.false_eq_true, Option.isSome_some, Option.getD_some, not_true_eq_false, not_false_eq_true, Option.toList_some, Option.toList_none, List.cons_append, List.nil_append, fr_79, fbP_99_36, fl_cnt, Bool.toNat_false])
  refine this.trans ?_
  try dsimp only
  rw [fbC_99_4]
  simp (disch := omega) only [hg.1, hg.2, fl_KM, fl_RM, fl_lit, fl_nadd, fl_nmul, fl_ndiv, fl_nsub, fl_msub, fl_nle, fl_nlt, fl_neq, fl_nclamp, fl_nin, fl_ltT, fl_ltF, fl_leT, fl_leF, fl_eqT, fl_eqF, decide_true, decide_false, Bool.true_and, Bool.and_true, Bool.false_and, Bool.and_false, if_true, if_false, Bool.false_eq_true, Option.isSome_some, Option.getD_some, not_true_eq_false, not_false_eq_true, Option.toList_some, Option.toList_none, List.cons_append, List.nil_append, m]
theorem fr_258 {k0 : Nat → Nat × Nat} {h : fl_H} {g : Nat → Nat} (hg : fl_g k0 h) (m : fl_mm h g) (b : ∀ j, j < 126 → g j < 256) (w : g 0 ≤ 12) : fl_cl fl_C 258 [.ref 259] h = some (some (some (.int (Int32.ofNat (fl_cnt (fun k => decide (g (4 + k) = 8)) (g 0))))), h) := by
  rw [fbE_258]
  have := fl_iter (fun j => fl_Rn fl_C 258 4 [some (.ref 259), some (.int (Int32.ofNat (fl_cnt (fun k => decide (g (4 + k) = 8)) j))), some (.int (Int32.ofNat j))] [] h) (g 0) (by
    intro j hj
    have := b (4 + j) (by omega)
    try dsimp only
    rw [fbC_258_4, fr_95 hg m, fbP_258_9, fr_97 hg m b (show j < 12 by omega)]
    by_cases c : g (4 + j) = 8
    · simp (disch := omega) only [hg.1, hg.2, fl_KM, fl_RM, c, fl_lit, fl_nadd, fl_nmul, fl_ndiv, fl_nsub, fl_msub, fl_nle, fl_nlt, fl_neq, fl_nclamp, fl_nin, fl_ltT, fl_ltF, fl_leT, fl_leF, fl_eqT, fl_eqF, decide_true, decide_false, Bool.true_and, Bool.and_true, Bool.false_and, Bool.and_false, if_true, if_false, Bool.false_eq_true, Option.isSome_some, Option.getD_some, not_true_eq_false, not_false_eq_true, Option.toList_some, Option.toList_none, List.cons_append, List.nil_append, fr_79, fbP_258_18, fbP_258_21, fl_cnt, Bool.toNat_true]
    · simp (disch := omega) only [hg.1, hg.2, fl_KM, fl_RM, c, fl_lit, fl_nadd, fl_nmul, fl_ndiv, fl_nsub, fl_msub, fl_nle, fl_nlt, fl_neq, fl_nclamp, fl_nin, fl_ltT, fl_ltF, fl_leT, fl_leF, fl_eqT, fl_eqF, decide_true, decide_false, Bool.true_and, Bool.and_true, Bool.false_and, Bool.and_false, if_true, if_false, Bool.false_eq_true, Option.isSome_some, Option.getD_some, not_true_eq_false, not_false_eq_true, Option.toList_some, Option.toList_none, List.cons_append, List.nil_append, fr_79, fbP_258_18, fbP_258_21, fl_cnt, Bool.toNat_false])
  refine this.trans ?_
  try dsimp only
  rw [fbC_258_4, fr_95 hg m, fbP_258_9]
  simp (disch := omega) only [hg.1, hg.2, fl_KM, fl_RM, fl_lit, fl_nadd, fl_nmul, fl_ndiv, fl_nsub, fl_msub, fl_nle, fl_nlt, fl_neq, fl_nclamp, fl_nin, fl_ltT, fl_ltF, fl_leT, fl_leF, fl_eqT, fl_eqF, decide_true, decide_false, Bool.true_and, Bool.and_true, Bool.false_and, Bool.and_false, if_true, if_false, Bool.false_eq_true, Option.isSome_some, Option.getD_some, not_true_eq_false, not_false_eq_true, Option.toList_some, Option.toList_none, List.cons_append, List.nil_append, m]
