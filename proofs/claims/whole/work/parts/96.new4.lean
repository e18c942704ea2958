/-! CONSTRUCTORS: a net, a kin, a bench -/
abbrev fl_tN (k0 : Nat → Nat × Nat) (n : Nat) : Prop := (fl_KK k0 n = (1, 4) ∧ fl_RR n 5 = some (n + 1) ∧ fl_RR n 6 = some (n + 1 + 2) ∧ fl_RR n 7 = some (n + 1 + 2 + 2) ∧ fl_RR n 8 = some (n + 1 + 2 + 2 + 2) ∧ fl_RR n 9 = some (n + 1 + 2 + 2 + 2 + 2) ∧ fl_RR n 10 = some (n + 1 + 2 + 2 + 2 + 2 + 2) ∧ (∀ j, j < 5 ∨ 11 ≤ j → fl_RR n j = none) ∧ ∀ j, fl_J n j = 0) ∧ fl_tC k0 (n + 1) 12 ∧ fl_tC k0 (n + 1 + 2) 12 ∧ fl_tC k0 (n + 1 + 2 + 2) 12 ∧ fl_tC k0 (n + 1 + 2 + 2 + 2) 12 ∧ fl_tC k0 (n + 1 + 2 + 2 + 2 + 2) 20 ∧ fl_tC k0 (n + 1 + 2 + 2 + 2 + 2 + 2) 4
abbrev fl_tB (k0 : Nat → Nat × Nat) (n : Nat) : Prop := (fl_KK k0 n = (1, 0) ∧ fl_RR n 0 = some (n + 1) ∧ fl_RR n 1 = some (n + 1 + 9) ∧ (∀ j, 2 ≤ j → fl_RR n j = none) ∧ ∀ j, fl_J n j = 0) ∧ fl_tS k0 (n + 1) ∧ fl_tS k0 (n + 1 + 9)
section
variable {k0 : Nat → Nat × Nat} {h H H' : fl_H} {n p m sl s f : Nat} {F : Nat → Bool} {G : Nat → Int32}
theorem fn_12 {a b : Nat} (h1 : h.1 = (n, a, b, true)) (hn : n < 900) (t : fl_tN k0 n) : ∃ H, fl_cl fl_C 12 [.ref n] (fl_mk h (1, 4) f) = some (some none, H) ∧ fl_cn k0 h H n 13 (f + (1 + 12) + (1 + 12) + (1 + 12) + (1 + 12) + (1 + 20) + (1 + 4)) := by
  have a0 := fn_mk (f := f) h1 t.1.1
  obtain ⟨H1, e1, l1, k1, a1⟩ := fn_fC a0 (by omega) (by omega) t.2.1 t.1.2.1
  obtain ⟨H2, e2, l2, k2, a2⟩ := fn_fC a1 (by omega) (by omega) t.2.2.1 t.1.2.2.1
  obtain ⟨H3, e3, l3, k3, a3⟩ := fn_fC a2 (by omega) (by omega) t.2.2.2.1 t.1.2.2.2.1
  obtain ⟨H4, e4, l4, k4, a4⟩ := fn_fC a3 (by omega) (by omega) t.2.2.2.2.1 t.1.2.2.2.2.1
  obtain ⟨H5, e5, l5, k5, a5⟩ := fn_fC a4 (by omega) (by omega) t.2.2.2.2.2.1 t.1.2.2.2.2.2.1
  obtain ⟨H6, e6, l6, k6, a6⟩ := fn_fC a5 (by omega) (by omega) t.2.2.2.2.2.2 t.1.2.2.2.2.2.2.1
  have q0 := a0.2.1
  have q1 := a1.2.1
  have q2 := a2.2.1
  have q3 := a3.2.1
  have q4 := a4.2.1
  have q5 := a5.2.1
  rw [t.1.1] at k1 k2 k3 k4 k5 k6
  refine ⟨fl_sr H6 n 10 (n + 1 + 2 + 2 + 2 + 2 + 2), ?_, fn_done a6 (fun j z => ?_) (fun j => (t.1.2.2.2.2.2.2.2.2 j).symm)⟩
  · clear a0 a1 a2 a3 a4 a5 a6 t h1
    rw [fbE_12]
    simp (disch := omega) only [q0, q1, q2, q3, q4, q5, l1, l2, l3, l4, l5, l6, k1, k2, k3, k4, k5, k6, fl_lit, fl_nadd, fl_nmul, fl_ndiv, fl_nsub, fl_msub, fl_nle, fl_nlt, fl_neq, fl_nclamp, fl_nin, fl_ltT, fl_ltF, fl_leT, fl_leF, fl_eqT, fl_eqF, decide_true, decide_false, Bool.true_and, Bool.and_true, Bool.false_and, Bool.and_false, if_true, if_false, Bool.false_eq_true, Option.isSome_some, Option.getD_some, not_true_eq_false, not_false_eq_true, Option.toList_some, Option.toList_none, List.cons_append, List.nil_append, e1, e2, e3, e4, e5, e6, fbP_12_14, fbC_12_17, fbP_12_27, fbC_12_30, fbP_12_40, fbC_12_43, fbP_12_53, fbC_12_56, fbP_12_66, fbC_12_69, fbP_12_78, fbC_12_81]
  · refine t.1.2.2.2.2.2.2.2.1 j ?_
    by_cases j4 : j < 5 ∨ 11 ≤ j
    · exact j4
    · exfalso
      rcases (show j = 5 ∨ j = 6 ∨ j = 7 ∨ j = 8 ∨ j = 9 ∨ j = 10 by omega) with e | e | e | e | e | e <;> subst e <;> exact absurd z (by decide)
/-- a field that is a side, made -/
theorem fn_fS {j : Nat} (a : fl_pg k0 h H n p sl F G) (hp : p < 900) (t : fl_tS k0 p) (R : fl_RR n j = some p) : ∃ H', fl_cl fl_C 14 [.ref p] (fl_mk H (1, 9) 4) = some (some none, H') ∧ H'.1.1 = p + 9 ∧ fl_k H' n = fl_KK k0 n ∧ fl_pg k0 h (fl_sr H' n j p) n (p + 9) (sl + 56) (fl_up F j true) G := by
  obtain ⟨H', e, c⟩ := fn_14 (k0 := k0) a.2.1 hp t
  refine ⟨H', e, by rw [c.1], ?_, fn_fld a c R⟩
  have np := a.1
  rw [c.2.1 n, if_neg (by omega), a.2.2.1 n, if_pos ⟨Nat.le_refl n, np⟩]
theorem fn_15 {a b : Nat} (h1 : h.1 = (n, a, b, true)) (hn : n < 800) (t : fl_tB k0 n) : ∃ H, fl_cl fl_C 15 [.ref n] (fl_mk h (1, 0) f) = some (some none, H) ∧ fl_cn k0 h H n 19 (f + 56 + 56) := by
  have a0 := fn_mk (f := f) h1 t.1.1
  obtain ⟨H1, e1, l1, k1, a1⟩ := fn_fS a0 (by omega) t.2.1 t.1.2.1
  obtain ⟨H2, e2, l2, k2, a2⟩ := fn_fS a1 (by omega) t.2.2 t.1.2.2.1
  have q0 := a0.2.1
  have q1 := a1.2.1
  rw [t.1.1] at k1 k2
  refine ⟨fl_sr H2 n 1 (n + 1 + 9), ?_, fn_done a2 (fun j z => ?_) (fun j => (t.1.2.2.2.2 j).symm)⟩
  · clear a0 a1 a2 t h1
    rw [fbE_15]
    simp (disch := omega) only [q0, q1, l1, l2, k1, k2, fl_lit, fl_nadd, fl_nmul, fl_ndiv, fl_nsub, fl_msub, fl_nle, fl_nlt, fl_neq, fl_nclamp, fl_nin, fl_ltT, fl_ltF, fl_leT, fl_leF, fl_eqT, fl_eqF, decide_true, decide_false, Bool.true_and, Bool.and_true, Bool.false_and, Bool.and_false, if_true, if_false, Bool.false_eq_true, Option.isSome_some, Option.getD_some, not_true_eq_false, not_false_eq_true, Option.toList_some, Option.toList_none, List.cons_append, List.nil_append, e1, e2, fbP_15_12, fbC_15_15, fbP_15_23, fbC_15_26]
  · refine t.1.2.2.2.1 j ?_
    by_cases j4 : 2 ≤ j
    · exact j4
    · exfalso
      rcases (show j = 0 ∨ j = 1 by omega) with e | e <;> subst e <;> exact absurd z (by decide)
end
