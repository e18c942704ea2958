/-! CONSTRUCTORS: moves, a run, a reader -/
abbrev fl_tV (k0 : Nat → Nat × Nat) (n : Nat) : Prop := (fl_KK k0 n = (1, 3) ∧ fl_RR n 0 = some (n + 1) ∧ fl_RR n 1 = some (n + 1 + 9) ∧ fl_RR n 2 = some (n + 1 + 9 + 2) ∧ fl_RR n 3 = some (n + 1 + 9 + 2 + 2) ∧ (∀ j, 4 ≤ j → fl_RR n j = none) ∧ ∀ j, fl_J n j = 0) ∧ fl_tS k0 (n + 1) ∧ fl_tC k0 (n + 1 + 9) 432 ∧ fl_tC k0 (n + 1 + 9 + 2) 3024 ∧ fl_tC k0 (n + 1 + 9 + 2 + 2) 3024
abbrev fl_tRn (k0 : Nat → Nat × Nat) (n : Nat) : Prop := (fl_KK k0 n = (1, 7) ∧ fl_RR n 0 = some (n + 1) ∧ fl_RR n 1 = some (n + 1 + 13) ∧ fl_RR n 2 = some (n + 1 + 13 + 19) ∧ fl_RR n 8 = some (n + 1 + 13 + 19 + 2) ∧ fl_RR n 9 = some (n + 1 + 13 + 19 + 2 + 2) ∧ (∀ j, (3 ≤ j ∧ j < 8) ∨ 10 ≤ j → fl_RR n j = none) ∧ ∀ j, fl_J n j = 0) ∧ fl_tN k0 (n + 1) ∧ fl_tB k0 (n + 1 + 13) ∧ fl_tC k0 (n + 1 + 13 + 19) 24 ∧ fl_tC k0 (n + 1 + 13 + 19 + 2) 64 ∧ fl_tC k0 (n + 1 + 13 + 19 + 2 + 2) 64
section
variable {k0 : Nat → Nat × Nat} {h H H' : fl_H} {n p m sl s f : Nat} {F : Nat → Bool} {G : Nat → Int32}
/-- a field, whatever it is -/
theorem fn_fX {j : Nat} (a : fl_pg k0 h H n p sl F G) (c : fl_cn k0 H H' p m s) (R : fl_RR n j = some p) : H'.1.1 = p + m ∧ fl_k H' n = fl_KK k0 n ∧ fl_pg k0 h (fl_sr H' n j p) n (p + m) (sl + s) (fl_up F j true) G := by
  have np := a.1
  exact ⟨by rw [c.1], by rw [c.2.1 n, if_neg (by omega), a.2.2.1 n, if_pos ⟨Nat.le_refl n, np⟩], fn_fld a c R⟩
theorem fn_18 {a b : Nat} (h1 : h.1 = (n, a, b, true)) (hn : n < 800) (t : fl_tV k0 n) : ∃ H, fl_cl fl_C 18 [.ref n] (fl_mk h (1, 3) f) = some (some none, H) ∧ fl_cn k0 h H n 16 (f + 56 + (1 + 432) + (1 + 3024) + (1 + 3024)) := by
  have a0 := fn_mk (f := f) h1 t.1.1
  obtain ⟨H1, e1, l1, k1, a1⟩ := fn_fS a0 (by omega) t.2.1 t.1.2.1
  obtain ⟨H2, e2, l2, k2, a2⟩ := fn_fC a1 (by omega) (by omega) t.2.2.1 t.1.2.2.1
  obtain ⟨H3, e3, l3, k3, a3⟩ := fn_fC a2 (by omega) (by omega) t.2.2.2.1 t.1.2.2.2.1
  obtain ⟨H4, e4, l4, k4, a4⟩ := fn_fC a3 (by omega) (by omega) t.2.2.2.2 t.1.2.2.2.2.1
  have q0 := a0.2.1
  have q1 := a1.2.1
  have q2 := a2.2.1
  have q3 := a3.2.1
  rw [t.1.1] at k1 k2 k3 k4
  refine ⟨fl_sr H4 n 3 (n + 1 + 9 + 2 + 2), ?_, fn_done a4 (fun j z => ?_) (fun j => (t.1.2.2.2.2.2.2 j).symm)⟩
  · clear a0 a1 a2 a3 a4 t h1
    rw [fbE_18]
    simp (disch := omega) only [q0, q1, q2, q3, l1, l2, l3, l4, k1, k2, k3, k4, fl_lit, fl_nadd, fl_nmul, fl_ndiv, fl_nsub, fl_msub, fl_nle, fl_nlt, fl_neq, fl_nclamp, fl_nin, fl_ltT, fl_ltF, fl_leT, fl_leF, fl_eqT, fl_eqF, decide_true, decide_false, Bool.true_and, Bool.and_true, Bool.false_and, Bool.and_false, if_true, if_false, Bool.false_eq_true, Option.isSome_some, Option.getD_some, not_true_eq_false, not_false_eq_true, Option.toList_some, Option.toList_none, List.cons_append, List.nil_append, e1, e2, e3, e4, fbP_18_12, fbC_18_15, fbP_18_26, fbC_18_29, fbP_18_40, fbC_18_43, fbP_18_54, fbC_18_57]
  · refine t.1.2.2.2.2.2.1 j ?_
    by_cases j4 : 4 ≤ j
    · exact j4
    · exfalso
      rcases (show j = 0 ∨ j = 1 ∨ j = 2 ∨ j = 3 by omega) with e | e | e | e <;> subst e <;> exact absurd z (by decide)
theorem fn_16 {a b : Nat} (h1 : h.1 = (n, a, b, true)) (hn : n < 700) (t : fl_tRn k0 n) : ∃ H sl, fl_cl fl_C 16 [.ref n] (fl_mk h (1, 7) f) = some (some none, H) ∧ fl_cn k0 h H n 39 sl ∧ sl ≤ f + 500 := by
  have a0 := fn_mk (f := f) h1 t.1.1
  obtain ⟨H1, e1, c1⟩ := fn_12 (k0 := k0) (f := 11) a0.2.1 (by omega) t.2.1
  obtain ⟨l1, k1, a1⟩ := fn_fX a0 c1 t.1.2.1
  obtain ⟨H2, e2, c2⟩ := fn_15 (k0 := k0) (f := 2) a1.2.1 (by omega) t.2.2.1
  obtain ⟨l2, k2, a2⟩ := fn_fX a1 c2 t.1.2.2.1
  obtain ⟨H3, e3, l3, k3, a3⟩ := fn_fC a2 (by omega) (by omega) t.2.2.2.1 t.1.2.2.2.1
  obtain ⟨H4, e4, l4, k4, a4⟩ := fn_fC a3 (by omega) (by omega) t.2.2.2.2.1 t.1.2.2.2.2.1
  obtain ⟨H5, e5, l5, k5, a5⟩ := fn_fC a4 (by omega) (by omega) t.2.2.2.2.2 t.1.2.2.2.2.2.1
  have q0 := a0.2.1
  have q1 := a1.2.1
  have q2 := a2.2.1
  have q3 := a3.2.1
  have q4 := a4.2.1
  rw [t.1.1] at k1 k2 k3 k4 k5
  refine ⟨fl_sr H5 n 9 (n + 1 + 13 + 19 + 2 + 2), _, ?_, fn_done a5 (fun j z => ?_) (fun j => (t.1.2.2.2.2.2.2.2 j).symm), by omega⟩
  · clear a0 a1 a2 a3 a4 a5 t h1 c1 c2
    rw [fbE_16]
    simp (disch := omega) only [q0, q1, q2, q3, q4, l1, l2, l3, l4, l5, k1, k2, k3, k4, k5, fl_lit, fl_nadd, fl_nmul, fl_ndiv, fl_nsub, fl_msub, fl_nle, fl_nlt, fl_neq, fl_nclamp, fl_nin, fl_ltT, fl_ltF, fl_leT, fl_leF, fl_eqT, fl_eqF, decide_true, decide_false, Bool.true_and, Bool.and_true, Bool.false_and, Bool.and_false, if_true, if_false, Bool.false_eq_true, Option.isSome_some, Option.getD_some, not_true_eq_false, not_false_eq_true, Option.toList_some, Option.toList_none, List.cons_append, List.nil_append, e1, e2, e3, e4, e5, fbP_16_12, fbC_16_15, fbP_16_23, fbC_16_26, fbP_16_36, fbC_16_39, fbP_16_49, fbC_16_52, fbP_16_62, fbC_16_65]
  · refine t.1.2.2.2.2.2.2.1 j ?_
    by_cases j4 : (3 ≤ j ∧ j < 8) ∨ 10 ≤ j
    · exact j4
    · exfalso
      rcases (show j = 0 ∨ j = 1 ∨ j = 2 ∨ j = 8 ∨ j = 9 by omega) with e | e | e | e | e <;> subst e <;> exact absurd z (by decide)
end
