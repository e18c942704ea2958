/-! CONSTRUCTORS: a reader, a search -/
abbrev fl_tRd (k0 : Nat → Nat × Nat) (n : Nat) : Prop := (fl_KK k0 n = (1, 6) ∧ fl_RR n 0 = some (n + 1) ∧ fl_RR n 1 = some (n + 1 + 13) ∧ fl_RR n 2 = some (n + 1 + 13 + 3) ∧ (∀ j, 3 ≤ j → fl_RR n j = none) ∧ ∀ j, fl_J n j = 0) ∧ fl_tN k0 (n + 1) ∧ fl_tP k0 (n + 1 + 13) 4 ∧ fl_tP k0 (n + 1 + 13 + 3) 4
abbrev fl_tSe (k0 : Nat → Nat × Nat) (n : Nat) : Prop := (fl_KK k0 n = (1, 8) ∧ fl_RR n 0 = some (n + 1) ∧ fl_RR n 1 = some (n + 1 + 2) ∧ fl_RR n 2 = some (n + 1 + 2 + 16) ∧ fl_RR n 3 = some (n + 1 + 2 + 16 + 16) ∧ fl_RR n 4 = some (n + 1 + 2 + 16 + 16 + 2) ∧ fl_RR n 5 = some (n + 1 + 2 + 16 + 16 + 2 + 2) ∧ fl_RR n 6 = some (n + 1 + 2 + 16 + 16 + 2 + 2 + 2) ∧ fl_RR n 7 = some (n + 1 + 2 + 16 + 16 + 2 + 2 + 2 + 2) ∧ (∀ j, 8 ≤ j → fl_RR n j = none) ∧ ∀ j, fl_J n j = 0) ∧ fl_tC k0 (n + 1) 6 ∧ fl_tV k0 (n + 1 + 2) ∧ fl_tV k0 (n + 1 + 2 + 16) ∧ fl_tC k0 (n + 1 + 2 + 16 + 16) 729 ∧ fl_tC k0 (n + 1 + 2 + 16 + 16 + 2) 729 ∧ fl_tC k0 (n + 1 + 2 + 16 + 16 + 2 + 2) 729 ∧ fl_tC k0 (n + 1 + 2 + 16 + 16 + 2 + 2 + 2) 729 ∧ fl_tC k0 (n + 1 + 2 + 16 + 16 + 2 + 2 + 2 + 2) 729
section
variable {k0 : Nat → Nat × Nat} {h H H' : fl_H} {n p m sl s f : Nat} {F : Nat → Bool} {G : Nat → Int32}
theorem fn_13 {a b : Nat} (h1 : h.1 = (n, a, b, true)) (hn : n < 700) (t : fl_tRd k0 n) : ∃ H sl, fl_cl fl_C 13 [.ref n] (fl_mk h (1, 6) f) = some (some none, H) ∧ fl_cn k0 h H n 20 sl ∧ sl ≤ f + 200 := by
  have a0 := fn_mk (f := f) h1 t.1.1
  obtain ⟨H1, e1, c1⟩ := fn_12 (k0 := k0) (f := 11) a0.2.1 (by omega) t.2.1
  obtain ⟨l1, k1, a1⟩ := fn_fX a0 c1 t.1.2.1
  obtain ⟨H2, e2, c2⟩ := fn_11 (k0 := k0) (f := 3) a1.2.1 (by omega) (by omega) t.2.2.1
  obtain ⟨l2, k2, a2⟩ := fn_fX a1 c2 t.1.2.2.1
  obtain ⟨H3, e3, c3⟩ := fn_11 (k0 := k0) (f := 3) a2.2.1 (by omega) (by omega) t.2.2.2
  obtain ⟨l3, k3, a3⟩ := fn_fX a2 c3 t.1.2.2.2.1
  have q0 := a0.2.1
  have q1 := a1.2.1
  have q2 := a2.2.1
  rw [t.1.1] at k1 k2 k3
  refine ⟨fl_sr H3 n 2 (n + 1 + 13 + 3), _, ?_, fn_done a3 (fun j z => ?_) (fun j => (t.1.2.2.2.2.2 j).symm), by omega⟩
  · clear a0 a1 a2 a3 t h1 c1 c2 c3
    rw [fbE_13]
    simp (disch := omega) only [q0, q1, q2, l1, l2, l3, k1, k2, k3, fl_lit, fl_nadd, fl_nmul, fl_ndiv, fl_nsub, fl_msub, fl_nle, fl_nlt, fl_neq, fl_nclamp, fl_nin, fl_ltT, fl_ltF, fl_leT, fl_leF, fl_eqT, fl_eqF, decide_true, decide_false, Bool.true_and, Bool.and_true, Bool.false_and, Bool.and_false, if_true, if_false, Bool.false_eq_true, Option.isSome_some, Option.getD_some, not_true_eq_false, not_false_eq_true, Option.toList_some, Option.toList_none, List.cons_append, List.nil_append, e1, e2, e3, fbP_13_12, fbC_13_15, fbP_13_24, fbC_13_27, fbP_13_36, fbC_13_39]
  · refine t.1.2.2.2.2.1 j ?_
    by_cases j4 : 3 ≤ j
    · exact j4
    · exfalso
      rcases (show j = 0 ∨ j = 1 ∨ j = 2 by omega) with e | e | e <;> subst e <;> exact absurd z (by decide)
theorem fn_19 {a b : Nat} (h1 : h.1 = (n, a, b, true)) (hn : n < 600) (t : fl_tSe k0 n) : ∃ H sl, fl_cl fl_C 19 [.ref n] (fl_mk h (1, 8) f) = some (some none, H) ∧ fl_cn k0 h H n 45 sl ∧ sl ≤ f + 20000 := by
  have a0 := fn_mk (f := f) h1 t.1.1
  obtain ⟨H1, e1, l1, k1, a1⟩ := fn_fC a0 (by omega) (by omega) t.2.1 t.1.2.1
  obtain ⟨H2, e2, c2⟩ := fn_18 (k0 := k0) (f := 4) a1.2.1 (by omega) t.2.2.1
  obtain ⟨l2, k2, a2⟩ := fn_fX a1 c2 t.1.2.2.1
  obtain ⟨H3, e3, c3⟩ := fn_18 (k0 := k0) (f := 4) a2.2.1 (by omega) t.2.2.2.1
  obtain ⟨l3, k3, a3⟩ := fn_fX a2 c3 t.1.2.2.2.1
  obtain ⟨H4, e4, l4, k4, a4⟩ := fn_fC a3 (by omega) (by omega) t.2.2.2.2.1 t.1.2.2.2.2.1
  obtain ⟨H5, e5, l5, k5, a5⟩ := fn_fC a4 (by omega) (by omega) t.2.2.2.2.2.1 t.1.2.2.2.2.2.1
  obtain ⟨H6, e6, l6, k6, a6⟩ := fn_fC a5 (by omega) (by omega) t.2.2.2.2.2.2.1 t.1.2.2.2.2.2.2.1
  obtain ⟨H7, e7, l7, k7, a7⟩ := fn_fC a6 (by omega) (by omega) t.2.2.2.2.2.2.2.1 t.1.2.2.2.2.2.2.2.1
  obtain ⟨H8, e8, l8, k8, a8⟩ := fn_fC a7 (by omega) (by omega) t.2.2.2.2.2.2.2.2 t.1.2.2.2.2.2.2.2.2.1
  have q0 := a0.2.1
  have q1 := a1.2.1
  have q2 := a2.2.1
  have q3 := a3.2.1
  have q4 := a4.2.1
  have q5 := a5.2.1
  have q6 := a6.2.1
  have q7 := a7.2.1
  rw [t.1.1] at k1 k2 k3 k4 k5 k6 k7 k8
  refine ⟨fl_sr H8 n 7 (n + 1 + 2 + 16 + 16 + 2 + 2 + 2 + 2), _, ?_, fn_done a8 (fun j z => ?_) (fun j => (t.1.2.2.2.2.2.2.2.2.2.2 j).symm), by omega⟩
  · clear a0 a1 a2 a3 a4 a5 a6 a7 a8 t h1 c2 c3
    rw [fbE_19]
    simp (disch := omega) only [q0, q1, q2, q3, q4, q5, q6, q7, l1, l2, l3, l4, l5, l6, l7, l8, k1, k2, k3, k4, k5, k6, k7, k8, fl_lit, fl_nadd, fl_nmul, fl_ndiv, fl_nsub, fl_msub, fl_nle, fl_nlt, fl_neq, fl_nclamp, fl_nin, fl_ltT, fl_ltF, fl_leT, fl_leF, fl_eqT, fl_eqF, decide_true, decide_false, Bool.true_and, Bool.and_true, Bool.false_and, Bool.and_false, if_true, if_false, Bool.false_eq_true, Option.isSome_some, Option.getD_some, not_true_eq_false, not_false_eq_true, Option.toList_some, Option.toList_none, List.cons_append, List.nil_append, e1, e2, e3, e4, e5, e6, e7, e8, fbP_19_14, fbC_19_17, fbP_19_25, fbC_19_28, fbP_19_36, fbC_19_39, fbP_19_50, fbC_19_53, fbP_19_64, fbC_19_67, fbP_19_78, fbC_19_81, fbP_19_92, fbC_19_95, fbP_19_106, fbC_19_109]
  · refine t.1.2.2.2.2.2.2.2.2.2.1 j ?_
    by_cases j4 : 8 ≤ j
    · exact j4
    · exfalso
      rcases (show j = 0 ∨ j = 1 ∨ j = 2 ∨ j = 3 ∨ j = 4 ∨ j = 5 ∨ j = 6 ∨ j = 7 by omega) with e | e | e | e | e | e | e | e <;> subst e <;> exact absurd z (by decide)
end
