/-! CONSTRUCTORS: the class's fields -/
section
variable {k0 : Nat → Nat × Nat} {h : fl_H}
theorem fn_29 {a b : Nat} (h1 : h.1 = (0, a, b, true)) : ∃ H sl, fl_cl fl_C 29 [.ref 0] (fl_mk h (1, 10) 13) = fl_Rn fl_C 29 129 [some (.ref 0)] [] H ∧ fl_cn k0 h H 0 259 sl ∧ sl ≤ 60000 := by
  have R := fl_RF
  have a0 : fl_pg k0 h (fl_mk h (1, 10) 13) 0 1 13 (fun _ => false) (fun _ => 0) := fn_mk h1 rfl
  obtain ⟨H1, e1, c1⟩ := fn_11 (k0 := k0) (n := 1) (f := 3) a0.2.1 (by omega) (by omega) (fn_tP fn_ok_1)
  obtain ⟨l1, k1, a1⟩ := fn_fX a0 c1 R.1
  replace l1 : H1.1.1 = 4 := l1
  replace a1 : fl_pg k0 h (fl_sr H1 0 0 1) 0 4 _ _ _ := a1
  obtain ⟨H2, e2, c2⟩ := fn_11 (k0 := k0) (n := 4) (f := 3) a1.2.1 (by omega) (by omega) (fn_tP fn_ok_4)
  obtain ⟨l2, k2, a2⟩ := fn_fX a1 c2 R.2.1
  replace l2 : H2.1.1 = 7 := l2
  replace a2 : fl_pg k0 h (fl_sr H2 0 1 4) 0 7 _ _ _ := a2
  obtain ⟨H3, s3, e3, c3, b3⟩ := fn_13 (k0 := k0) (n := 7) (f := 5) a2.2.1 (by omega) (fn_tRd fn_ok_7)
  obtain ⟨l3, k3, a3⟩ := fn_fX a2 c3 R.2.2.1
  replace l3 : H3.1.1 = 27 := l3
  replace a3 : fl_pg k0 h (fl_sr H3 0 2 7) 0 27 _ _ _ := a3
  obtain ⟨H4, s4, e4, c4, b4⟩ := fn_16 (k0 := k0) (n := 27) (f := 10) a3.2.1 (by omega) (fn_tRn fn_ok_27)
  obtain ⟨l4, k4, a4⟩ := fn_fX a3 c4 R.2.2.2.1
  replace l4 : H4.1.1 = 66 := l4
  replace a4 : fl_pg k0 h (fl_sr H4 0 3 27) 0 66 _ _ _ := a4
  obtain ⟨H5, s5, e5, c5, b5⟩ := fn_16 (k0 := k0) (n := 66) (f := 10) a4.2.1 (by omega) (fn_tRn fn_ok_66)
  obtain ⟨l5, k5, a5⟩ := fn_fX a4 c5 R.2.2.2.2.1
  replace l5 : H5.1.1 = 105 := l5
  replace a5 : fl_pg k0 h (fl_sr H5 0 4 66) 0 105 _ _ _ := a5
  obtain ⟨H6, s6, e6, c6, b6⟩ := fn_16 (k0 := k0) (n := 105) (f := 10) a5.2.1 (by omega) (fn_tRn fn_ok_105)
  obtain ⟨l6, k6, a6⟩ := fn_fX a5 c6 R.2.2.2.2.2.1
  replace l6 : H6.1.1 = 144 := l6
  replace a6 : fl_pg k0 h (fl_sr H6 0 5 105) 0 144 _ _ _ := a6
  obtain ⟨H7, s7, e7, c7, b7⟩ := fn_16 (k0 := k0) (n := 144) (f := 10) a6.2.1 (by omega) (fn_tRn fn_ok_144)
  obtain ⟨l7, k7, a7⟩ := fn_fX a6 c7 R.2.2.2.2.2.2.1
  replace l7 : H7.1.1 = 183 := l7
  replace a7 : fl_pg k0 h (fl_sr H7 0 8 144) 0 183 _ _ _ := a7
  obtain ⟨H8, e8, c8⟩ := fn_15 (k0 := k0) (n := 183) (f := 2) a7.2.1 (by omega) (fn_tB fn_ok_183)
  obtain ⟨l8, k8, a8⟩ := fn_fX a7 c8 R.2.2.2.2.2.2.2.1
  replace l8 : H8.1.1 = 202 := l8
  replace a8 : fl_pg k0 h (fl_sr H8 0 9 183) 0 202 _ _ _ := a8
  obtain ⟨H9, e9, c9⟩ := fn_14 (k0 := k0) (n := 202) a8.2.1 (by omega) (fn_tS fn_ok_202)
  obtain ⟨l9, k9, a9⟩ := fn_fX a8 c9 R.2.2.2.2.2.2.2.2.1
  replace l9 : H9.1.1 = 211 := l9
  replace a9 : fl_pg k0 h (fl_sr H9 0 10 202) 0 211 _ _ _ := a9
  obtain ⟨HA, eA, cA⟩ := fn_17 (k0 := k0) (n := 211) (f := 1) a9.2.1 (by omega) (fn_tK1 fn_ok_211)
  obtain ⟨lA, kA, aA⟩ := fn_fX a9 cA R.2.2.2.2.2.2.2.2.2.1
  replace lA : HA.1.1 = 214 := lA
  replace aA : fl_pg k0 h (fl_sr HA 0 11 211) 0 214 _ _ _ := aA
  obtain ⟨HB, sB, eB, cB, bB⟩ := fn_19 (k0 := k0) (n := 214) (f := 9) aA.2.1 (by omega) (fn_tSe fn_ok_214)
  obtain ⟨lB, kB, aB⟩ := fn_fX aA cB R.2.2.2.2.2.2.2.2.2.2
  replace lB : HB.1.1 = 259 := lB
  replace aB : fl_pg k0 h (fl_sr HB 0 12 214) 0 259 _ _ _ := aB
  have q0 := a0.2.1
  have q1 := a1.2.1
  have q2 := a2.2.1
  have q3 := a3.2.1
  have q4 := a4.2.1
  have q5 := a5.2.1
  have q6 := a6.2.1
  have q7 := a7.2.1
  have q8 := a8.2.1
  have q9 := a9.2.1
  have qA := aA.2.1
  rw [show fl_KK k0 0 = (1, 10) from rfl] at k1 k2 k3 k4 k5 k6 k7 k8 k9 kA kB
  refine ⟨fl_sr HB 0 12 214, _, ?_, fn_done aB (fun j z => ?_) (fun j => (fn_J0 (by decide) j).symm), by omega⟩
  · clear a0 a1 a2 a3 a4 a5 a6 a7 a8 a9 aA aB h1 c1 c2 c3 c4 c5 c6 c7 c8 c9 cA cB R b3 b4 b5 b6 b7 bB
    rw [fbE_29]
    simp (disch := omega) only [q0, q1, q2, q3, q4, q5, q6, q7, q8, q9, qA, l1, l2, l3, l4, l5, l6, l7, l8, l9, lA, lB, k1, k2, k3, k4, k5, k6, k7, k8, k9, kA, kB, fl_lit, fl_nadd, fl_nmul, fl_ndiv, fl_nsub, fl_msub, fl_nle, fl_nlt, fl_neq, fl_nclamp, fl_nin, fl_ltT, fl_ltF, fl_leT, fl_leF, fl_eqT, fl_eqF, decide_true, decide_false, Bool.true_and, Bool.and_true, Bool.false_and, Bool.and_false, if_true, if_false, Bool.false_eq_true, Option.isSome_some, Option.getD_some, not_true_eq_false, not_false_eq_true, Option.toList_some, Option.toList_none, List.cons_append, List.nil_append, e1, e2, e3, e4, e5, e6, e7, e8, e9, eA, eB, fbP_29_14, fbC_29_17, fbP_29_27, fbC_29_30, fbP_29_38, fbC_29_41, fbP_29_49, fbC_29_52, fbP_29_60, fbC_29_63, fbP_29_71, fbC_29_74, fbP_29_82, fbC_29_85, fbP_29_93, fbC_29_96, fbP_29_104, fbC_29_107, fbP_29_115, fbC_29_118, fbP_29_126]
  · by_cases j4 : 13 ≤ j
    · exact fn_Rn (by decide) j4
    · rcases (show j = 0 ∨ j = 1 ∨ j = 2 ∨ j = 3 ∨ j = 4 ∨ j = 5 ∨ j = 6 ∨ j = 7 ∨ j = 8 ∨ j = 9 ∨ j = 10 ∨ j = 11 ∨ j = 12 by omega) with e | e | e | e | e | e | e | e | e | e | e | e | e <;> subst e <;> first | rfl | exact absurd z (by decide)
end
