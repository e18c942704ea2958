/-! CONSTRUCTORS: a side -/
/-- what the table says of Cells at n; of a side at n -/
abbrev fl_tC (k0 : Nat → Nat × Nat) (n sz : Nat) : Prop := fl_KK k0 n = (1, 1) ∧ fl_KK k0 (n + 1) = (3, sz) ∧ (∀ j, fl_RR n j = if j = 0 then some (n + 1) else none) ∧ (∀ j, fl_RR (n + 1) j = none) ∧ (∀ j, fl_J n j = 0) ∧ ∀ j, fl_J (n + 1) j = 0
abbrev fl_tS (k0 : Nat → Nat × Nat) (n : Nat) : Prop := (fl_KK k0 n = (1, 9) ∧ fl_RR n 0 = some (n + 1) ∧ fl_RR n 1 = some (n + 1 + 2) ∧ fl_RR n 2 = some (n + 1 + 2 + 2) ∧ fl_RR n 3 = some (n + 1 + 2 + 2 + 2) ∧ (∀ j, 4 ≤ j → fl_RR n j = none) ∧ ∀ j, fl_J n j = 0) ∧ fl_tC k0 (n + 1) 12 ∧ fl_tC k0 (n + 1 + 2) 12 ∧ fl_tC k0 (n + 1 + 2 + 2) 12 ∧ fl_tC k0 (n + 1 + 2 + 2 + 2) 12
section
variable {k0 : Nat → Nat × Nat} {h H H' : fl_H} {n p m sl s f : Nat} {F : Nat → Bool} {G : Nat → Int32}
/-- a field that is Cells, made -/
theorem fn_fC {j sz : Nat} (a : fl_pg k0 h H n p sl F G) (hp : p < 1000) (hz : sz < 100000) (t : fl_tC k0 p sz) (R : fl_RR n j = some p) : ∃ H', fl_cl fl_C 10 [.ref p, .int (Int32.ofNat sz)] (fl_mk H (1, 1) 1) = some (some none, H') ∧ H'.1.1 = p + 2 ∧ fl_k H' n = fl_KK k0 n ∧ fl_pg k0 h (fl_sr H' n j p) n (p + 2) (sl + (1 + sz)) (fl_up F j true) G := by
  obtain ⟨H', e, c⟩ := fn_10 (k0 := k0) a.2.1 hp hz t.1 t.2.1 t.2.2.1 t.2.2.2.1 t.2.2.2.2.1 t.2.2.2.2.2
  refine ⟨H', e, by rw [c.1], ?_, fn_fld a c R⟩
  have np := a.1
  rw [c.2.1 n, if_neg (by omega), a.2.2.1 n, if_pos ⟨Nat.le_refl n, np⟩]
theorem fn_14 {a b : Nat} (h1 : h.1 = (n, a, b, true)) (hn : n < 900) (t : fl_tS k0 n) : ∃ H, fl_cl fl_C 14 [.ref n] (fl_mk h (1, 9) 4) = some (some none, H) ∧ fl_cn k0 h H n 9 56 := by
  have a0 := fn_mk (f := 4) h1 t.1.1
  obtain ⟨H1, e1, l1, k1, a1⟩ := fn_fC a0 (by omega) (by omega) t.2.1 t.1.2.1
  obtain ⟨H2, e2, l2, k2, a2⟩ := fn_fC a1 (by omega) (by omega) t.2.2.1 t.1.2.2.1
  obtain ⟨H3, e3, l3, k3, a3⟩ := fn_fC a2 (by omega) (by omega) t.2.2.2.1 t.1.2.2.2.1
  obtain ⟨H4, e4, l4, k4, a4⟩ := fn_fC a3 (by omega) (by omega) t.2.2.2.2 t.1.2.2.2.2.1
  have q0 := a0.2.1
  have q1 := a1.2.1
  have q2 := a2.2.1
  have q3 := a3.2.1
  rw [t.1.1] at k1 k2 k3 k4
  refine ⟨fl_sr H4 n 3 (n + 1 + 2 + 2 + 2), ?_, fn_done a4 (fun j z => ?_) (fun j => (t.1.2.2.2.2.2.2 j).symm)⟩
  · clear a0 a1 a2 a3 a4 t h1
    rw [fbE_14]
    simp (disch := omega) only [q0, q1, q2, q3, l1, l2, l3, l4, k1, k2, k3, k4, fl_lit, fl_nadd, fl_nmul, fl_ndiv, fl_nsub, fl_msub, fl_nle, fl_nlt, fl_neq, fl_nclamp, fl_nin, fl_ltT, fl_ltF, fl_leT, fl_leF, fl_eqT, fl_eqF, decide_true, decide_false, Bool.true_and, Bool.and_true, Bool.false_and, Bool.and_false, if_true, if_false, Bool.false_eq_true, Option.isSome_some, Option.getD_some, not_true_eq_false, not_false_eq_true, Option.toList_some, Option.toList_none, List.cons_append, List.nil_append, e1, e2, e3, e4, fbP_14_14, fbC_14_17, fbP_14_27, fbC_14_30, fbP_14_40, fbC_14_43, fbP_14_53, fbC_14_56]
  · refine t.1.2.2.2.2.2.1 j ?_
    by_cases j4 : 4 ≤ j
    · exact j4
    · exfalso
      rcases (show j = 0 ∨ j = 1 ∨ j = 2 ∨ j = 3 by omega) with e | e | e | e <;> subst e <;> exact absurd z (by decide)
end
