/-! NETS AND SIDES of the class -/
abbrev fl_isN (k0 : Nat → Nat × Nat) (n : Nat) : Prop := (fl_KK k0 n = (1, 4) ∧ fl_RR n 5 = some (n + 1) ∧ fl_RR n 6 = some (n + 3) ∧ fl_RR n 7 = some (n + 5) ∧ fl_RR n 8 = some (n + 7) ∧ fl_RR n 9 = some (n + 9) ∧ fl_RR n 10 = some (n + 11)) ∧ fl_isC k0 (n + 1) (n + 2) 12 ∧ fl_isC k0 (n + 3) (n + 4) 12 ∧ fl_isC k0 (n + 5) (n + 6) 12 ∧ fl_isC k0 (n + 7) (n + 8) 12 ∧ fl_isC k0 (n + 9) (n + 10) 20 ∧ fl_isC k0 (n + 11) (n + 12) 4
abbrev fl_isS (k0 : Nat → Nat × Nat) (o : Nat) : Prop := (fl_KK k0 o = (1, 9) ∧ fl_RR o 0 = some (o + 1) ∧ fl_RR o 1 = some (o + 3) ∧ fl_RR o 2 = some (o + 5) ∧ fl_RR o 3 = some (o + 7)) ∧ fl_isC k0 (o + 1) (o + 2) 12 ∧ fl_isC k0 (o + 3) (o + 4) 12 ∧ fl_isC k0 (o + 5) (o + 6) 12 ∧ fl_isC k0 (o + 7) (o + 8) 12
/-- what the class keeps of a net -/
abbrev fl_net (h : fl_H) (n : Nat) (g : Nat → Nat) : Prop :=
  (fl_i h n 0 = Int32.ofNat (g 1) ∧ fl_i h n 1 = Int32.ofNat (g 0) ∧ fl_i h n 2 = Int32.ofNat (g 2) ∧ fl_i h n 3 = Int32.ofNat (fl_cnt (fun k => decide (g (4 + k) = 8)) (g 0)) ∧ fl_i h n 4 = Int32.ofNat (g 3)) ∧
  (∀ k, k < g 0 → fl_l h (n + 2) k = Int64.ofNat (g (4 + k))) ∧ (∀ k, k < g 0 → fl_l h (n + 4) k = Int64.ofNat (g (28 + k))) ∧
  (∀ k, k < g 0 → fl_l h (n + 6) k = if g (28 + k) = 0 then -1 else Int64.ofNat (g (16 + k))) ∧ (∀ k, k < g 0 → fl_l h (n + 8) k = if g (4 + k) = 8 then Int64.ofNat (g (40 + k)) else -1) ∧
  (∀ p, p < g 2 → fl_l h (n + 10) p = Int64.ofNat (g (52 + p))) ∧ (∀ j, j < g 3 → fl_l h (n + 12) j = Int64.ofNat (g (72 + j)))
theorem fl_o32 (x : Nat) : (Int64.ofNat x).toInt32 = Int32.ofNat x := Int64.toInt32_ofNat'
theorem fc_64 {k0 : Nat → Nat × Nat} {h : fl_H} {g : Nat → Nat} {n : Nat} (hg : fl_g k0 h) (nn : fl_isN k0 n) (w : fl_wf g) (d : fl_net h n g) (k : Int32) : fl_cl fl_C 64 [.ref n, .int k] h = some (some (some (.int (if fl_in k (g 0) = true then Int32.ofNat 1 else Int32.ofNat 0))), h) := by
  have w1 := w.1
  rw [fbE_64, fbC_64_16]
  simp only [hg.1, nn.1, d.1, decide_true, if_true]
  by_cases c : k < 0
  · rw [fl_ifd c, if_neg (fun z => (fl_in_iff.mp z).1 c)]; rfl
  · rw [fl_ifn c]
    by_cases e : g 0 ≤ k.toNatClampNeg
    · rw [fl_ifd ((fl_i32_le c (by omega)).mpr e), if_neg (fun z => by have := (fl_in_iff.mp z).2; omega)]; rfl
    · rw [fl_ifn (fun z => e ((fl_i32_le c (by omega)).mp z)), if_pos (fl_in_iff.mpr ⟨c, by omega⟩)]; rfl
theorem fc_66 {k0 : Nat → Nat × Nat} {h : fl_H} {g : Nat → Nat} {n : Nat} (hg : fl_g k0 h) (nn : fl_isN k0 n) (w : fl_wf g) (d : fl_net h n g) : fl_cl fl_C 66 [.ref n] h = some (some (some (.int (Int32.ofNat (2 * (g 0 + g 2))))), h) := by
  rw [fbE_66]
  simp (disch := omega) only [hg.1, nn.1, d.1, fl_lit, fl_nadd, fl_nmul, fl_ndiv, fl_nsub, fl_msub, fl_nle, fl_nlt, fl_neq, fl_nclamp, fl_nin, fl_ltT, fl_ltF, fl_leT, fl_leF, fl_eqT, fl_eqF, decide_true, decide_false, Bool.true_and, Bool.and_true, Bool.false_and, Bool.and_false, if_true, if_false, Bool.false_eq_true, Option.isSome_some, Option.getD_some, not_true_eq_false, not_false_eq_true, Option.toList_some, Option.toList_none, List.cons_append, List.nil_append]
theorem fc_162 {k0 : Nat → Nat × Nat} {h : fl_H} {g : Nat → Nat} {n : Nat} (hg : fl_g k0 h) (nn : fl_isN k0 n) (w : fl_wf g) (d : fl_net h n g) (k : Int32) : fl_cl fl_C 162 [.ref n, .int k] h = some (some (some (.int (if fl_in k (2 * (g 0 + g 2)) = true then Int32.ofNat 1 else Int32.ofNat 0))), h) := by
  have w1 := w.1
  rw [fbE_162, fbC_162_16, fc_66 hg nn w d, fbP_162_9, fbC_162_16]
  simp only [hg.1, nn.1, decide_true, if_true, Bool.and_true]
  by_cases c : k < 0
  · rw [fl_ifd c, if_neg (fun z => (fl_in_iff.mp z).1 c)]; rfl
  · rw [fl_ifn c]
    by_cases e : 2 * (g 0 + g 2) ≤ k.toNatClampNeg
    · rw [fl_ifd ((fl_i32_le c (by omega)).mpr e), if_neg (fun z => by have := (fl_in_iff.mp z).2; omega)]; rfl
    · rw [fl_ifn (fun z => e ((fl_i32_le c (by omega)).mp z)), if_pos (fl_in_iff.mpr ⟨c, by omega⟩)]; rfl
theorem fc_65 {k0 : Nat → Nat × Nat} {h : fl_H} {g : Nat → Nat} {n : Nat} (hg : fl_g k0 h) (nn : fl_isN k0 n) (w : fl_wf g) (d : fl_net h n g) {k : Nat} (hk : k < g 0) : fl_cl fl_C 65 [.ref n, .int (Int32.ofNat k)] h = some (some (some (.int (if g (4 + k) = 8 then Int32.ofNat 1 else Int32.ofNat 0))), h) := by
  have w1 := w.1
  have b := w.2.2.2.2.2.2.2.2.1 (4 + k) (by omega)
  rw [fbE_65, fc_64 hg nn w d, fl_nin (by omega), decide_eq_true hk, if_pos rfl, fbP_65_5]
  simp (disch := first | omega | assumption) only [hg.1, hg.2, nn.1, nn.2.1, fc_int nn.2.1, d.2.1, fl_o32, fl_lit, fl_nadd, fl_nmul, fl_ndiv, fl_nsub, fl_msub, fl_nle, fl_nlt, fl_neq, fl_nclamp, fl_nin, fl_ltT, fl_ltF, fl_leT, fl_leF, fl_eqT, fl_eqF, decide_true, decide_false, Bool.true_and, Bool.and_true, Bool.false_and, Bool.and_false, if_true, if_false, Bool.false_eq_true, Option.isSome_some, Option.getD_some, not_true_eq_false, not_false_eq_true, Option.toList_some, Option.toList_none, List.cons_append, List.nil_append, fbP_65_16, fbC_65_25]
  by_cases c : g (4 + k) = 8
  · simp [c]
  · simp [c]
theorem fc_61 {k0 : Nat → Nat × Nat} {h : fl_H} {g : Nat → Nat} {n : Nat} (hg : fl_g k0 h) (nn : fl_isN k0 n) (w : fl_wf g) (d : fl_net h n g) {k : Nat} (hk : k < 256) : fl_cl fl_C 61 [.ref n, .int (Int32.ofNat k)] h = some (some (some (.int (if fl_any (fun j => decide (g (72 + j) = k)) (g 3) = true then Int32.ofNat 1 else Int32.ofNat 0))), h) := by
  have w1 := w.1
  rw [fbE_61]
  have := fl_find (fun j => fl_Rn fl_C 61 2 [some (.ref n), some (.int (Int32.ofNat k)), some (.int (Int32.ofNat j))] [] h) (some (some (some (.int (Int32.ofNat 1))), h)) (fun j => decide (g (72 + j) = k)) (g 3) (by
    intro j hj
    have := w.2.2.2.2.2.2.2.2.1 (72 + j) (by omega)
    try dsimp only
    rw [fbC_61_2]
    simp (disch := first | omega | assumption) only [hg.1, hg.2, nn.1, nn.2.2.2.2.2.2, d.1, d.2.2.2.2.2.2, fl_o32, fc_int nn.2.2.2.2.2.2, fbP_61_18, fl_lit, fl_nadd, fl_nmul, fl_ndiv, fl_nsub, fl_msub, fl_nle, fl_nlt, fl_neq, fl_nclamp, fl_nin, fl_ltT, fl_ltF, fl_leT, fl_leF, fl_eqT, fl_eqF, decide_true, decide_false, Bool.true_and, Bool.and_true, Bool.false_and, Bool.and_false, if_true, if_false, Bool.false_eq_true, Option.isSome_some, Option.getD_some, not_true_eq_false, not_false_eq_true, Option.toList_some, Option.toList_none, List.cons_append, List.nil_append]
    by_cases c : g (72 + j) = k
    · simp [c]
    · simp [c])
  refine this.trans ?_
  have e : fl_Rn fl_C 61 2 [some (.ref n), some (.int (Int32.ofNat k)), some (.int (Int32.ofNat (g 3)))] [] h = some (some (some (.int (Int32.ofNat 0))), h) := by
    rw [fbC_61_2]
    simp (disch := first | omega | assumption) only [hg.1, hg.2, nn.1, d.1, fl_lit, fl_nadd, fl_nmul, fl_ndiv, fl_nsub, fl_msub, fl_nle, fl_nlt, fl_neq, fl_nclamp, fl_nin, fl_ltT, fl_ltF, fl_leT, fl_leF, fl_eqT, fl_eqF, decide_true, decide_false, Bool.true_and, Bool.and_true, Bool.false_and, Bool.and_false, if_true, if_false, Bool.false_eq_true, Option.isSome_some, Option.getD_some, not_true_eq_false, not_false_eq_true, Option.toList_some, Option.toList_none, List.cons_append, List.nil_append]
  try dsimp only
  rw [e]
  split <;> rfl
theorem fc_92 {k0 : Nat → Nat × Nat} {h : fl_H} {g : Nat → Nat} {n : Nat} (hg : fl_g k0 h) (nn : fl_isN k0 n) (w : fl_wf g) (d : fl_net h n g) {k : Nat} (hk : k < 256) : fl_cl fl_C 92 [.ref n, .int (Int32.ofNat k)] h = some (some (some (.int (Int32.ofNat (fl_cnt (fun p => decide (g (52 + p) = k)) (g 2))))), h) := by
  have w1 := w.1
  rw [fbE_92]
  have := fl_iter (fun j => fl_Rn fl_C 92 4 [some (.ref n), some (.int (Int32.ofNat k)), some (.int (Int32.ofNat (fl_cnt (fun p => decide (g (52 + p) = k)) j))), some (.int (Int32.ofNat j))] [] h) (g 2) (by
    intro j hj
    have := w.2.2.2.2.2.2.2.2.1 (52 + j) (by omega)
    try dsimp only
    rw [fbC_92_4]
    simp (disch := first | omega | assumption) only [hg.1, hg.2, nn.1, nn.2.2.2.2.2.1, d.1, d.2.2.2.2.2.1, fl_o32, fc_int nn.2.2.2.2.2.1, fbP_92_21, fl_lit, fl_nadd, fl_nmul, fl_ndiv, fl_nsub, fl_msub, fl_nle, fl_nlt, fl_neq, fl_nclamp, fl_nin, fl_ltT, fl_ltF, fl_leT, fl_leF, fl_eqT, fl_eqF, decide_true, decide_false, Bool.true_and, Bool.and_true, Bool.false_and, Bool.and_false, if_true, if_false, Bool.false_eq_true, Option.isSome_some, Option.getD_some, not_true_eq_false, not_false_eq_true, Option.toList_some, Option.toList_none, List.cons_append, List.nil_append]
    by_cases c : g (52 + j) = k
    · simp (disch := omega) only [c, fl_lit, fl_nadd, fl_nmul, fl_ndiv, fl_nsub, fl_msub, fl_nle, fl_nlt, fl_neq, fl_nclamp, fl_nin, fl_ltT, fl_ltF, fl_leT, fl_leF, fl_eqT, fl_eqF, decide_true, decide_false, Bool.true_and, Bool.and_true, Bool.false_and, Bool.and_false, if_true, if_false, Bool.false_eq_true, Option.isSome_some, Option.getD_some, not_true_eq_false, not_false_eq_true, Option.toList_some, Option.toList_none, List.cons_append, List.nil_append, fl_cnt, Bool.toNat_true]
    · simp (disch := omega) only [c, fl_lit, fl_nadd, fl_nmul, fl_ndiv, fl_nsub, fl_msub, fl_nle, fl_nlt, fl_neq, fl_nclamp, fl_nin, fl_ltT, fl_ltF, fl_leT, fl_leF, fl_eqT, fl_eqF, decide_true, decide_false, Bool.true_and, Bool.and_true, Bool.false_and, Bool.and_false, if_true, if_false, Bool.false_eq_true, Option.isSome_some, Option.getD_some, not_true_eq_false, not_false_eq_true, Option.toList_some, Option.toList_none, List.cons_append, List.nil_append, fl_cnt, Bool.toNat_false])
  refine this.trans ?_
  try dsimp only
  rw [fbC_92_4]
  simp (disch := first | omega | assumption) only [hg.1, hg.2, nn.1, d.1, fl_lit, fl_nadd, fl_nmul, fl_ndiv, fl_nsub, fl_msub, fl_nle, fl_nlt, fl_neq, fl_nclamp, fl_nin, fl_ltT, fl_ltF, fl_leT, fl_leF, fl_eqT, fl_eqF, decide_true, decide_false, Bool.true_and, Bool.and_true, Bool.false_and, Bool.and_false, if_true, if_false, Bool.false_eq_true, Option.isSome_some, Option.getD_some, not_true_eq_false, not_false_eq_true, Option.toList_some, Option.toList_none, List.cons_append, List.nil_append]
