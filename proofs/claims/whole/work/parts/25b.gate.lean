/-! GATES of the reference -/
theorem fr_135b {k0 : Nat → Nat × Nat} {h : fl_H} {g : Nat → Nat} (hg : fl_g k0 h) (m : fl_mm h g) {k : Nat} (hk : k < 12) (hs : 1 ≤ g (4 + k) ∧ g (4 + k) ≤ 8) (x : Nat) (hx : x ≤ 2) : fl_Rn fl_C 135 215 [some (.ref 259), some (.int (Int32.ofNat k)), none, none, none, none, none, none, some (.int (Int32.ofNat x))] [] h = some (some (some (.int (Int32.ofNat (fl_gx (g (4 + k)) x)))), h) := by
    rw [fbC_135_215, fbC_135_222, fbC_135_245, fbC_135_258]
    unfold fl_gx
    by_cases c : x < 2
    · simp (disch := first | decide | omega) only [hg.1, hg.2, fl_KM, fl_RM, fl_lit, fl_nadd, fl_nmul, fl_ndiv, fl_nsub, fl_msub, fl_nle, fl_nlt, fl_neq, fl_nclamp, fl_nin, fl_ltT, fl_ltF, fl_leT, fl_leF, fl_eqT, fl_eqF, decide_true, decide_false, Bool.true_and, Bool.and_true, Bool.false_and, Bool.and_false, if_true, if_false, Bool.false_eq_true, Option.isSome_some, Option.getD_some, not_true_eq_false, not_false_eq_true, Option.toList_some, Option.toList_none, List.cons_append, List.nil_append, m, and_true]
      by_cases e1 : g (4 + k) = 1
      · simp [e1]
      · by_cases e6 : g (4 + k) = 6
        · simp [e6]
        · by_cases e7 : g (4 + k) = 7
          · simp [e7]
          · simp [e1, e6, e7]
    · simp (disch := first | decide | omega) only [hg.1, hg.2, fl_KM, fl_RM, fl_lit, fl_nadd, fl_nmul, fl_ndiv, fl_nsub, fl_msub, fl_nle, fl_nlt, fl_neq, fl_nclamp, fl_nin, fl_ltT, fl_ltF, fl_leT, fl_leF, fl_eqT, fl_eqF, decide_true, decide_false, Bool.true_and, Bool.and_true, Bool.false_and, Bool.and_false, if_true, if_false, Bool.false_eq_true, Option.isSome_some, Option.getD_some, not_true_eq_false, not_false_eq_true, Option.toList_some, Option.toList_none, List.cons_append, List.nil_append, m, and_false]
      (repeat' split) <;> rfl
theorem fr_135a {k0 : Nat → Nat × Nat} {h : fl_H} {g : Nat → Nat} (hg : fl_g k0 h) (m : fl_mm h g) {k : Nat} (hk : k < 12) (hs : 1 ≤ g (4 + k) ∧ g (4 + k) ≤ 8) (b3 : g (28 + k) ≤ 3) (a b : Nat) (hab : a + b ≤ 3) : fl_Rn fl_C 135 115 [some (.ref 259), some (.int (Int32.ofNat k)), none, none, none, some (.int (Int32.ofNat a)), some (.int (Int32.ofNat b)), some (.int (if a + b = g (28 + k) then Int32.ofNat 1 else Int32.ofNat 0))] [.int (Int32.ofNat (4 + k)), .ref 262] h = some (some (some (.int (Int32.ofNat (fl_gx (g (4 + k)) (fl_gr (g (4 + k)) (g (28 + k)) a b))))), h) := by
    rw [fbC_135_115, fbC_135_152, fbC_135_176, fbC_135_200, ← fr_135b hg m hk hs _ (fl_gr_le _ _ _ _)]
    simp (disch := first | decide | omega) only [hg.1, hg.2, fl_KM, fl_RM, fl_lit, fl_nadd, fl_nmul, fl_ndiv, fl_nsub, fl_msub, fl_nle, fl_nlt, fl_neq, fl_nclamp, fl_nin, fl_ltT, fl_ltF, fl_leT, fl_leF, fl_eqT, fl_eqF, decide_true, decide_false, Bool.true_and, Bool.and_true, Bool.false_and, Bool.and_false, if_true, if_false, Bool.false_eq_true, Option.isSome_some, Option.getD_some, not_true_eq_false, not_false_eq_true, Option.toList_some, Option.toList_none, List.cons_append, List.nil_append, m]
    unfold fl_gr
    rcases (show g (4 + k) = 1 ∨ g (4 + k) = 2 ∨ g (4 + k) = 3 ∨ g (4 + k) = 4 ∨ g (4 + k) = 5 ∨ g (4 + k) = 6 ∨ g (4 + k) = 7 ∨ g (4 + k) = 8 by omega) with e | e | e | e | e | e | e | e <;> simp [e] <;> (repeat' split) <;> first | (exfalso; omega) | with_reducible rfl | simp_all
/-- the pins of a gate -/
theorem fr_135 {k0 : Nat → Nat × Nat} {h : fl_H} {g : Nat → Nat} (hg : fl_g k0 h) (m : fl_mm h g) (b : ∀ j, j < 126 → g j < 256) (w : g 0 ≤ 12) {k : Nat} (hk : k < 12) (hs : 1 ≤ g (4 + k) ∧ g (4 + k) ≤ 8) (hw : g (16 + k) + g (28 + k) ≤ 20) (hw3 : g (28 + k) ≤ 3) (f : Nat) (v : Nat → Nat) (hr : ∀ i, i < g (28 + k) → g (52 + (g (16 + k) + i)) < 12 ∧ fl_i h 266 (g (52 + (g (16 + k) + i))) = Int32.ofNat (v (g (52 + (g (16 + k) + i)))) ∧ v (g (52 + (g (16 + k) + i))) ≤ 2) : fl_cl fl_C 135 [.ref 259, .int (Int32.ofNat k), .int (fl_fi f)] h = some (some (some (.int (Int32.ofNat (fl_gt g f v k)))), h) := by
  have b1 := b (16 + k) (by omega)
  have b2 := b (28 + k) (by omega)
  have b3 := b (4 + k) (by omega)
  have lp := fl_iter (fun i => fl_Rn fl_C 135 30 [some (.ref 259), some (.int (Int32.ofNat k)), some (.int (fl_fi f)), some (.int (Int32.ofNat (g (16 + k)))), some (.int (Int32.ofNat (g (28 + k)))), some (.int (Int32.ofNat (fl_gn g f v k 0 i))), some (.int (Int32.ofNat (fl_gn g f v k 1 i))), some (.int (Int32.ofNat (g (16 + k) + i)))] [] h) (g (28 + k)) (by
    intro i hi
    obtain ⟨r1, r2, r3⟩ := hr i hi
    have q : fl_pv g f v (g (16 + k) + i) ≤ 2 := fl_pv_le r3
    try dsimp only
    rw [fbC_135_30]
    have e := fr_134 hg m b w (show g (16 + k) + i < 20 by omega) f v r1 r2
    simp (disch := first | decide | omega) only [hg.1, hg.2, fl_KM, fl_RM, fl_lit, fl_nadd, fl_nmul, fl_ndiv, fl_nsub, fl_msub, fl_nle, fl_nlt, fl_neq, fl_nclamp, fl_nin, fl_ltT, fl_ltF, fl_leT, fl_leF, fl_eqT, fl_eqF, decide_true, decide_false, Bool.true_and, Bool.and_true, Bool.false_and, Bool.and_false, if_true, if_false, Bool.false_eq_true, Option.isSome_some, Option.getD_some, not_true_eq_false, not_false_eq_true, Option.toList_some, Option.toList_none, List.cons_append, List.nil_append, e, fbP_135_46, fl_gn_succ]
    by_cases c0 : fl_pv g f v (g (16 + k) + i) = 0
    · simp (disch := first | decide | omega) only [c0, fl_lit, fl_nadd, fl_nmul, fl_ndiv, fl_nsub, fl_msub, fl_nle, fl_nlt, fl_neq, fl_nclamp, fl_nin, fl_ltT, fl_ltF, fl_leT, fl_leF, fl_eqT, fl_eqF, decide_true, decide_false, Bool.true_and, Bool.and_true, Bool.false_and, Bool.and_false, if_true, if_false, Bool.false_eq_true, Option.isSome_some, Option.getD_some, not_true_eq_false, not_false_eq_true, Option.toList_some, Option.toList_none, List.cons_append, List.nil_append, fr_79, fbP_135_63, fbP_135_82, Bool.toNat_true, Bool.toNat_false, Nat.add_assoc]
    · by_cases c1 : fl_pv g f v (g (16 + k) + i) = 1
      · simp (disch := first | decide | omega) only [c1, fl_lit, fl_nadd, fl_nmul, fl_ndiv, fl_nsub, fl_msub, fl_nle, fl_nlt, fl_neq, fl_nclamp, fl_nin, fl_ltT, fl_ltF, fl_leT, fl_leF, fl_eqT, fl_eqF, decide_true, decide_false, Bool.true_and, Bool.and_true, Bool.false_and, Bool.and_false, if_true, if_false, Bool.false_eq_true, Option.isSome_some, Option.getD_some, not_true_eq_false, not_false_eq_true, Option.toList_some, Option.toList_none, List.cons_append, List.nil_append, fr_79, fbP_135_63, fbP_135_82, Bool.toNat_true, Bool.toNat_false, Nat.add_assoc]
      · simp (disch := first | decide | omega) only [c0, c1, fl_lit, fl_nadd, fl_nmul, fl_ndiv, fl_nsub, fl_msub, fl_nle, fl_nlt, fl_neq, fl_nclamp, fl_nin, fl_ltT, fl_ltF, fl_leT, fl_leF, fl_eqT, fl_eqF, decide_true, decide_false, Bool.true_and, Bool.and_true, Bool.false_and, Bool.and_false, if_true, if_false, Bool.false_eq_true, Option.isSome_some, Option.getD_some, not_true_eq_false, not_false_eq_true, Option.toList_some, Option.toList_none, List.cons_append, List.nil_append, fr_79, fbP_135_63, fbP_135_82, Bool.toNat_true, Bool.toNat_false, Nat.add_assoc])
  have hsum := fl_gn_le (g := g) (f := f) (v := v) (k := k) (g (28 + k))
  rw [fbE_135, fbC_135_8, fbC_135_18]
  simp (disch := first | decide | omega) only [hg.1, hg.2, fl_KM, fl_RM, fl_lit, fl_nadd, fl_nmul, fl_ndiv, fl_nsub, fl_msub, fl_nle, fl_nlt, fl_neq, fl_nclamp, fl_nin, fl_ltT, fl_ltF, fl_leT, fl_leF, fl_eqT, fl_eqF, decide_true, decide_false, Bool.true_and, Bool.and_true, Bool.false_and, Bool.and_false, if_true, if_false, Bool.false_eq_true, Option.isSome_some, Option.getD_some, not_true_eq_false, not_false_eq_true, Option.toList_some, Option.toList_none, List.cons_append, List.nil_append, m]
  refine lp.trans ?_
  try dsimp only
  rw [fbC_135_30]
  have hh := fr_135a hg m hk hs hw3 _ _ (show fl_gn g f v k 0 (g (28 + k)) + fl_gn g f v k 1 (g (28 + k)) ≤ 3 by omega)
  by_cases c : fl_gn g f v k 0 (g (28 + k)) + fl_gn g f v k 1 (g (28 + k)) = g (28 + k)
  · rw [if_pos c] at hh
    simp (disch := first | decide | omega) only [hg.1, hg.2, fl_KM, fl_RM, fl_lit, fl_nadd, fl_nmul, fl_ndiv, fl_nsub, fl_msub, fl_nle, fl_nlt, fl_neq, fl_nclamp, fl_nin, fl_ltT, fl_ltF, fl_leT, fl_leF, fl_eqT, fl_eqF, decide_true, decide_false, Bool.true_and, Bool.and_true, Bool.false_and, Bool.and_false, if_true, if_false, Bool.false_eq_true, Option.isSome_some, Option.getD_some, not_true_eq_false, not_false_eq_true, Option.toList_some, Option.toList_none, List.cons_append, List.nil_append, m, hh]
    rfl
  · rw [if_neg c] at hh
    simp (disch := first | decide | omega) only [hg.1, hg.2, fl_KM, fl_RM, fl_lit, fl_nadd, fl_nmul, fl_ndiv, fl_nsub, fl_msub, fl_nle, fl_nlt, fl_neq, fl_nclamp, fl_nin, fl_ltT, fl_ltF, fl_leT, fl_leF, fl_eqT, fl_eqF, decide_true, decide_false, Bool.true_and, Bool.and_true, Bool.false_and, Bool.and_false, if_true, if_false, Bool.false_eq_true, Option.isSome_some, Option.getD_some, not_true_eq_false, not_false_eq_true, Option.toList_some, Option.toList_none, List.cons_append, List.nil_append, m, hh]
    rfl
