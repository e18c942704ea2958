/-! CONSTRUCTORS: a pile, a kin -/
abbrev fl_tP (k0 : Nat → Nat × Nat) (n sz : Nat) : Prop := (fl_KK k0 n = (1, 5) ∧ fl_RR n 0 = some (n + 1) ∧ (∀ j, 1 ≤ j → fl_RR n j = none) ∧ ∀ j, fl_J n j = if j = 1 then Int32.ofNat sz else 0) ∧ fl_tC k0 (n + 1) sz
abbrev fl_tK1 (k0 : Nat → Nat × Nat) (n : Nat) : Prop := (fl_KK k0 n = (1, 2) ∧ fl_RR n 0 = some (n + 1) ∧ (∀ j, 1 ≤ j → fl_RR n j = none) ∧ ∀ j, fl_J n j = 0) ∧ fl_tC k0 (n + 1) 64
section
variable {k0 : Nat → Nat × Nat} {h H H' : fl_H} {n p m sl s f : Nat} {F : Nat → Bool} {G : Nat → Int32}
/-- an int of the object itself -/
theorem fn_si {j : Nat} {v : Int32} (a : fl_pg k0 h H n p sl F G) : fl_pg k0 h (fl_si H n j v) n p sl F (fl_up G j v) := by
  obtain ⟨np, a1, ak, ar, ai, al⟩ := a
  refine ⟨np, a1, ak, ar, fun q i => ?_, al⟩
  rw [fl_i_si, ai q i]
  by_cases q0 : q = n
  · by_cases i0 : i = j
    · rw [if_pos ⟨q0, i0⟩, if_pos q0, i0, fl_up_self]
    · rw [if_neg (fun z => i0 z.2), if_pos q0, if_pos q0, fl_up_ne i0]
  · rw [if_neg (fun z => q0 z.1), if_neg q0, if_neg q0]
theorem fn_11 {a b sz : Nat} (h1 : h.1 = (n, a, b, true)) (hn : n < 900) (hz : sz < 1000) (t : fl_tP k0 n sz) : ∃ H, fl_cl fl_C 11 [.ref n, .int (Int32.ofNat sz)] (fl_mk h (1, 5) f) = some (some none, H) ∧ fl_cn k0 h H n 3 (f + (1 + sz)) := by
  have a0 := fn_mk (f := f) h1 t.1.1
  have k0' : fl_k (fl_mk h (1, 5) f) n = (1, 5) := by rw [a0.2.2.1 n, if_pos (by omega), t.1.1]
  have a1 := fn_si (j := 1) (v := Int32.ofNat sz) a0
  obtain ⟨H2, e2, l2, k2, a2⟩ := fn_fC a1 (by omega) (by omega) t.2 t.1.2.1
  have q1 := a1.2.1
  rw [t.1.1] at k2
  refine ⟨fl_sr H2 n 0 (n + 1), ?_, fn_done a2 (fun j z => ?_) (fun j => ?_)⟩
  · clear a0 a1 a2 t h1
    rw [fbE_11]
    simp (disch := omega) only [k0', q1, l2, k2, fl_lit, fl_nadd, fl_nmul, fl_ndiv, fl_nsub, fl_msub, fl_nle, fl_nlt, fl_neq, fl_nclamp, fl_nin, fl_ltT, fl_ltF, fl_leT, fl_leF, fl_eqT, fl_eqF, decide_true, decide_false, Bool.true_and, Bool.and_true, Bool.false_and, Bool.and_false, if_true, if_false, Bool.false_eq_true, Option.isSome_some, Option.getD_some, not_true_eq_false, not_false_eq_true, Option.toList_some, Option.toList_none, List.cons_append, List.nil_append, e2, fbC_11_9, fbP_11_18, fbC_11_21]
  · refine t.1.2.2.1 j ?_
    by_cases j4 : 1 ≤ j
    · exact j4
    · exfalso
      have e : j = 0 := by omega
      subst e; exact absurd z (by decide)
  · rw [t.1.2.2.2 j]
    by_cases j1 : j = 1
    · rw [j1, fl_up_self, if_pos rfl]
    · rw [fl_up_ne j1, if_neg j1]
theorem fn_17 {a b : Nat} (h1 : h.1 = (n, a, b, true)) (hn : n < 900) (t : fl_tK1 k0 n) : ∃ H, fl_cl fl_C 17 [.ref n] (fl_mk h (1, 2) f) = some (some none, H) ∧ fl_cn k0 h H n 3 (f + (1 + 64)) := by
  have a0 := fn_mk (f := f) h1 t.1.1
  obtain ⟨H2, e2, l2, k2, a2⟩ := fn_fC a0 (by omega) (by omega) t.2 t.1.2.1
  have q0 := a0.2.1
  rw [t.1.1] at k2
  refine ⟨fl_sr H2 n 0 (n + 1), ?_, fn_done a2 (fun j z => ?_) (fun j => (t.1.2.2.2 j).symm)⟩
  · clear a0 a2 t h1
    rw [fbE_17]
    simp (disch := omega) only [q0, l2, k2, fl_lit, fl_nadd, fl_nmul, fl_ndiv, fl_nsub, fl_msub, fl_nle, fl_nlt, fl_neq, fl_nclamp, fl_nin, fl_ltT, fl_ltF, fl_leT, fl_leF, fl_eqT, fl_eqF, decide_true, decide_false, Bool.true_and, Bool.and_true, Bool.false_and, Bool.and_false, if_true, if_false, Bool.false_eq_true, Option.isSome_some, Option.getD_some, not_true_eq_false, not_false_eq_true, Option.toList_some, Option.toList_none, List.cons_append, List.nil_append, e2, fbP_17_14, fbC_17_17]
  · refine t.1.2.2.1 j ?_
    by_cases j4 : 1 ≤ j
    · exact j4
    · exfalso
      have e : j = 0 := by omega
      subst e; exact absurd z (by decide)
end
