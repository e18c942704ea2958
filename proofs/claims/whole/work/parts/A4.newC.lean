/-! CONSTRUCTORS: the reference's arrays (printed by wip/whole/gen30.py) -/
section
variable {k0 : Nat → Nat × Nat} {h H : fl_H} {n p sl : Nat} {F : Nat → Bool} {G : Nat → Int32}
theorem fn_arr {kd kn : Nat × Nat} {j f : Nat} (a : fl_pg k0 h H n p sl F G) (hp : p < 285) (K : fn_en p = kd) (Rp : fn_rw p = []) (J : fn_q p) (R : fl_RR n j = some p) (Kn : fl_KK k0 n = kn) : ∃ H', fl_sr (fl_mk H kd f) n j p = H' ∧ H.1 = (p, h.1.2.1 + (p - n), h.1.2.2.1 + sl, true) ∧ fl_k (fl_mk H kd f) n = kn ∧ (fl_mk H kd f).1.1 = p + 1 ∧ fl_pg k0 h H' n (p + 1) (sl + f) (fl_up F j true) G := by
  have c : fl_cn k0 H (fl_mk H kd f) p 1 f := by
    have H1 := a.2.1
    have H11 : H.1.1 = p := by rw [H1]
    refine ⟨by rw [fl_1_mk, H1], fun q => ?_, fun q i => ?_, fun q i => ?_, fun q i => ?_⟩
    · rw [fl_k_mk, H11]
      by_cases e : q = p
      · rw [if_pos e, if_pos (by omega), e]; exact ((fn_KK hp).trans K).symm
      · rw [if_neg e, if_neg (by omega)]
    · rw [fl_r_mk, H11]
      by_cases e : q = p
      · rw [if_pos e, if_pos (by omega), e, fn_RR hp, Rp]; rfl
      · rw [if_neg e, if_neg (by omega)]
    · rw [fl_i_mk, H11]
      by_cases e : q = p
      · rw [if_pos e, if_pos (by omega), e, fn_J0 J]
      · rw [if_neg e, if_neg (by omega)]
    · rw [fl_l_mk, H11]
      by_cases e : q = p
      · rw [if_pos e, if_pos (by omega)]
      · rw [if_neg e, if_neg (by omega)]
  obtain ⟨l, k, x⟩ := fn_fX a c R
  exact ⟨_, rfl, a.2.1, k.trans Kn, l, x⟩
set_option maxHeartbeats 1000000 in
theorem fn_30 {a b : Nat} (h1 : h.1 = (259, a, b, true)) : ∃ H sl, fl_cl fl_C 30 [.ref 259] (fl_mk h (1, 11) 34) = fl_Rn fl_C 30 200 [some (.ref 259)] [] H ∧ fl_cn k0 h H 259 25 sl ∧ sl ≤ 60000 := by
  have kk : fl_KK k0 259 = (1, 11) := rfl
  have a0 : fl_pg k0 h (fl_mk h (1, 11) 34) 259 260 34 (fun _ => false) (fun _ => 0) := fn_mk h1 rfl
  generalize fl_mk h (1, 11) 34 = H0 at *
  obtain ⟨H1, t1, q1, k1, l1, a1⟩ := fn_arr (kd := (3, 32)) (j := 2) (f := 32) a0 (by decide) (by decide +kernel) (by decide +kernel) (by decide) (fn_Rj (by decide) (by decide +kernel)) kk
  replace l1 : (fl_mk H0 (3, 32) 32).1.1 = 261 := l1
  replace a1 : fl_pg k0 h H1 259 261 66 _ _ := a1
  have e1 : fl_cl fl_C 30 [.ref 259] H0 = fl_Rn fl_C 30 12 [some (.ref 259)] [] H1 := by
    clear a0 a1
    rw [fbE_30]
    simp (disch := omega) only [q1, k1, l1, fl_lit, fl_nadd, fl_nmul, fl_ndiv, fl_nsub, fl_msub, fl_nle, fl_nlt, fl_neq, fl_nclamp, fl_nin, fl_ltT, fl_ltF, fl_leT, fl_leF, fl_eqT, fl_eqF, decide_true, decide_false, Bool.true_and, Bool.and_true, Bool.false_and, Bool.and_false, if_true, if_false, Bool.false_eq_true, Option.isSome_some, Option.getD_some, not_true_eq_false, not_false_eq_true, Option.toList_some, Option.toList_none, List.cons_append, List.nil_append, t1]
  clear t1 q1 k1 l1 a0
  obtain ⟨H2, t2, q2, k2, l2, a2⟩ := fn_arr (kd := (2, 80)) (j := 3) (f := 80) a1 (by decide) (by decide +kernel) (by decide +kernel) (by decide) (fn_Rj (by decide) (by decide +kernel)) kk
  replace l2 : (fl_mk H1 (2, 80) 80).1.1 = 262 := l2
  replace a2 : fl_pg k0 h H2 259 262 146 _ _ := a2
  have e2 : fl_Rn fl_C 30 12 [some (.ref 259)] [] H1 = fl_Rn fl_C 30 20 [some (.ref 259)] [] H2 := by
    clear a1 a2
    rw [fbC_30_12]
    simp (disch := omega) only [q2, k2, l2, fl_lit, fl_nadd, fl_nmul, fl_ndiv, fl_nsub, fl_msub, fl_nle, fl_nlt, fl_neq, fl_nclamp, fl_nin, fl_ltT, fl_ltF, fl_leT, fl_leF, fl_eqT, fl_eqF, decide_true, decide_false, Bool.true_and, Bool.and_true, Bool.false_and, Bool.and_false, if_true, if_false, Bool.false_eq_true, Option.isSome_some, Option.getD_some, not_true_eq_false, not_false_eq_true, Option.toList_some, Option.toList_none, List.cons_append, List.nil_append, t2]
  clear t2 q2 k2 l2 a1
  obtain ⟨H3, t3, q3, k3, l3, a3⟩ := fn_arr (kd := (2, 630)) (j := 7) (f := 630) a2 (by decide) (by decide +kernel) (by decide +kernel) (by decide) (fn_Rj (by decide) (by decide +kernel)) kk
  replace l3 : (fl_mk H2 (2, 630) 630).1.1 = 263 := l3
  replace a3 : fl_pg k0 h H3 259 263 776 _ _ := a3
  have e3 : fl_Rn fl_C 30 20 [some (.ref 259)] [] H2 = fl_Rn fl_C 30 29 [some (.ref 259)] [] H3 := by
    clear a2 a3
    rw [fbC_30_20]
    simp (disch := omega) only [q3, k3, l3, fl_lit, fl_nadd, fl_nmul, fl_ndiv, fl_nsub, fl_msub, fl_nle, fl_nlt, fl_neq, fl_nclamp, fl_nin, fl_ltT, fl_ltF, fl_leT, fl_leF, fl_eqT, fl_eqF, decide_true, decide_false, Bool.true_and, Bool.and_true, Bool.false_and, Bool.and_false, if_true, if_false, Bool.false_eq_true, Option.isSome_some, Option.getD_some, not_true_eq_false, not_false_eq_true, Option.toList_some, Option.toList_none, List.cons_append, List.nil_append, t3]
  clear t3 q3 k3 l3 a2
  obtain ⟨H4, t4, q4, k4, l4, a4⟩ := fn_arr (kd := (3, 3)) (j := 8) (f := 3) a3 (by decide) (by decide +kernel) (by decide +kernel) (by decide) (fn_Rj (by decide) (by decide +kernel)) kk
  replace l4 : (fl_mk H3 (3, 3) 3).1.1 = 264 := l4
  replace a4 : fl_pg k0 h H4 259 264 779 _ _ := a4
  have e4 : fl_Rn fl_C 30 29 [some (.ref 259)] [] H3 = fl_Rn fl_C 30 36 [some (.ref 259)] [] H4 := by
    clear a3 a4
    rw [fbC_30_29]
    simp (disch := omega) only [q4, k4, l4, fl_lit, fl_nadd, fl_nmul, fl_ndiv, fl_nsub, fl_msub, fl_nle, fl_nlt, fl_neq, fl_nclamp, fl_nin, fl_ltT, fl_ltF, fl_leT, fl_leF, fl_eqT, fl_eqF, decide_true, decide_false, Bool.true_and, Bool.and_true, Bool.false_and, Bool.and_false, if_true, if_false, Bool.false_eq_true, Option.isSome_some, Option.getD_some, not_true_eq_false, not_false_eq_true, Option.toList_some, Option.toList_none, List.cons_append, List.nil_append, t4]
  clear t4 q4 k4 l4 a3
  obtain ⟨H5, t5, q5, k5, l5, a5⟩ := fn_arr (kd := (2, 4)) (j := 9) (f := 4) a4 (by decide) (by decide +kernel) (by decide +kernel) (by decide) (fn_Rj (by decide) (by decide +kernel)) kk
  replace l5 : (fl_mk H4 (2, 4) 4).1.1 = 265 := l5
  replace a5 : fl_pg k0 h H5 259 265 783 _ _ := a5
  have e5 : fl_Rn fl_C 30 36 [some (.ref 259)] [] H4 = fl_Rn fl_C 30 43 [some (.ref 259)] [] H5 := by
    clear a4 a5
    rw [fbC_30_36]
    simp (disch := omega) only [q5, k5, l5, fl_lit, fl_nadd, fl_nmul, fl_ndiv, fl_nsub, fl_msub, fl_nle, fl_nlt, fl_neq, fl_nclamp, fl_nin, fl_ltT, fl_ltF, fl_leT, fl_leF, fl_eqT, fl_eqF, decide_true, decide_false, Bool.true_and, Bool.and_true, Bool.false_and, Bool.and_false, if_true, if_false, Bool.false_eq_true, Option.isSome_some, Option.getD_some, not_true_eq_false, not_false_eq_true, Option.toList_some, Option.toList_none, List.cons_append, List.nil_append, t5]
  clear t5 q5 k5 l5 a4
  obtain ⟨H6, t6, q6, k6, l6, a6⟩ := fn_arr (kd := (2, 4)) (j := 10) (f := 4) a5 (by decide) (by decide +kernel) (by decide +kernel) (by decide) (fn_Rj (by decide) (by decide +kernel)) kk
  replace l6 : (fl_mk H5 (2, 4) 4).1.1 = 266 := l6
  replace a6 : fl_pg k0 h H6 259 266 787 _ _ := a6
  have e6 : fl_Rn fl_C 30 43 [some (.ref 259)] [] H5 = fl_Rn fl_C 30 50 [some (.ref 259)] [] H6 := by
    clear a5 a6
    rw [fbC_30_43]
    simp (disch := omega) only [q6, k6, l6, fl_lit, fl_nadd, fl_nmul, fl_ndiv, fl_nsub, fl_msub, fl_nle, fl_nlt, fl_neq, fl_nclamp, fl_nin, fl_ltT, fl_ltF, fl_leT, fl_leF, fl_eqT, fl_eqF, decide_true, decide_false, Bool.true_and, Bool.and_true, Bool.false_and, Bool.and_false, if_true, if_false, Bool.false_eq_true, Option.isSome_some, Option.getD_some, not_true_eq_false, not_false_eq_true, Option.toList_some, Option.toList_none, List.cons_append, List.nil_append, t6]
  clear t6 q6 k6 l6 a5
  obtain ⟨H7, t7, q7, k7, l7, a7⟩ := fn_arr (kd := (2, 12)) (j := 13) (f := 12) a6 (by decide) (by decide +kernel) (by decide +kernel) (by decide) (fn_Rj (by decide) (by decide +kernel)) kk
  replace l7 : (fl_mk H6 (2, 12) 12).1.1 = 267 := l7
  replace a7 : fl_pg k0 h H7 259 267 799 _ _ := a7
  have e7 : fl_Rn fl_C 30 50 [some (.ref 259)] [] H6 = fl_Rn fl_C 30 58 [some (.ref 259)] [] H7 := by
    clear a6 a7
    rw [fbC_30_50]
    simp (disch := omega) only [q7, k7, l7, fl_lit, fl_nadd, fl_nmul, fl_ndiv, fl_nsub, fl_msub, fl_nle, fl_nlt, fl_neq, fl_nclamp, fl_nin, fl_ltT, fl_ltF, fl_leT, fl_leF, fl_eqT, fl_eqF, decide_true, decide_false, Bool.true_and, Bool.and_true, Bool.false_and, Bool.and_false, if_true, if_false, Bool.false_eq_true, Option.isSome_some, Option.getD_some, not_true_eq_false, not_false_eq_true, Option.toList_some, Option.toList_none, List.cons_append, List.nil_append, t7]
  clear t7 q7 k7 l7 a6
  obtain ⟨H8, t8, q8, k8, l8, a8⟩ := fn_arr (kd := (2, 12)) (j := 14) (f := 12) a7 (by decide) (by decide +kernel) (by decide +kernel) (by decide) (fn_Rj (by decide) (by decide +kernel)) kk
  replace l8 : (fl_mk H7 (2, 12) 12).1.1 = 268 := l8
  replace a8 : fl_pg k0 h H8 259 268 811 _ _ := a8
  have e8 : fl_Rn fl_C 30 58 [some (.ref 259)] [] H7 = fl_Rn fl_C 30 66 [some (.ref 259)] [] H8 := by
    clear a7 a8
    rw [fbC_30_58]
    simp (disch := omega) only [q8, k8, l8, fl_lit, fl_nadd, fl_nmul, fl_ndiv, fl_nsub, fl_msub, fl_nle, fl_nlt, fl_neq, fl_nclamp, fl_nin, fl_ltT, fl_ltF, fl_leT, fl_leF, fl_eqT, fl_eqF, decide_true, decide_false, Bool.true_and, Bool.and_true, Bool.false_and, Bool.and_false, if_true, if_false, Bool.false_eq_true, Option.isSome_some, Option.getD_some, not_true_eq_false, not_false_eq_true, Option.toList_some, Option.toList_none, List.cons_append, List.nil_append, t8]
  clear t8 q8 k8 l8 a7
  obtain ⟨H9, t9, q9, k9, l9, a9⟩ := fn_arr (kd := (2, 25)) (j := 15) (f := 25) a8 (by decide) (by decide +kernel) (by decide +kernel) (by decide) (fn_Rj (by decide) (by decide +kernel)) kk
  replace l9 : (fl_mk H8 (2, 25) 25).1.1 = 269 := l9
  replace a9 : fl_pg k0 h H9 259 269 836 _ _ := a9
  have e9 : fl_Rn fl_C 30 66 [some (.ref 259)] [] H8 = fl_Rn fl_C 30 74 [some (.ref 259)] [] H9 := by
    clear a8 a9
    rw [fbC_30_66]
    simp (disch := omega) only [q9, k9, l9, fl_lit, fl_nadd, fl_nmul, fl_ndiv, fl_nsub, fl_msub, fl_nle, fl_nlt, fl_neq, fl_nclamp, fl_nin, fl_ltT, fl_ltF, fl_leT, fl_leF, fl_eqT, fl_eqF, decide_true, decide_false, Bool.true_and, Bool.and_true, Bool.false_and, Bool.and_false, if_true, if_false, Bool.false_eq_true, Option.isSome_some, Option.getD_some, not_true_eq_false, not_false_eq_true, Option.toList_some, Option.toList_none, List.cons_append, List.nil_append, t9]
  clear t9 q9 k9 l9 a8
  obtain ⟨H10, t10, q10, k10, l10, a10⟩ := fn_arr (kd := (2, 300)) (j := 17) (f := 300) a9 (by decide) (by decide +kernel) (by decide +kernel) (by decide) (fn_Rj (by decide) (by decide +kernel)) kk
  replace l10 : (fl_mk H9 (2, 300) 300).1.1 = 270 := l10
  replace a10 : fl_pg k0 h H10 259 270 1136 _ _ := a10
  have e10 : fl_Rn fl_C 30 74 [some (.ref 259)] [] H9 = fl_Rn fl_C 30 83 [some (.ref 259)] [] H10 := by
    clear a9 a10
    rw [fbC_30_74]
    simp (disch := omega) only [q10, k10, l10, fl_lit, fl_nadd, fl_nmul, fl_ndiv, fl_nsub, fl_msub, fl_nle, fl_nlt, fl_neq, fl_nclamp, fl_nin, fl_ltT, fl_ltF, fl_leT, fl_leF, fl_eqT, fl_eqF, decide_true, decide_false, Bool.true_and, Bool.and_true, Bool.false_and, Bool.and_false, if_true, if_false, Bool.false_eq_true, Option.isSome_some, Option.getD_some, not_true_eq_false, not_false_eq_true, Option.toList_some, Option.toList_none, List.cons_append, List.nil_append, t10]
  clear t10 q10 k10 l10 a9
  obtain ⟨H11, t11, q11, k11, l11, a11⟩ := fn_arr (kd := (2, 12)) (j := 18) (f := 12) a10 (by decide) (by decide +kernel) (by decide +kernel) (by decide) (fn_Rj (by decide) (by decide +kernel)) kk
  replace l11 : (fl_mk H10 (2, 12) 12).1.1 = 271 := l11
  replace a11 : fl_pg k0 h H11 259 271 1148 _ _ := a11
  have e11 : fl_Rn fl_C 30 83 [some (.ref 259)] [] H10 = fl_Rn fl_C 30 91 [some (.ref 259)] [] H11 := by
    clear a10 a11
    rw [fbC_30_83]
    simp (disch := omega) only [q11, k11, l11, fl_lit, fl_nadd, fl_nmul, fl_ndiv, fl_nsub, fl_msub, fl_nle, fl_nlt, fl_neq, fl_nclamp, fl_nin, fl_ltT, fl_ltF, fl_leT, fl_leF, fl_eqT, fl_eqF, decide_true, decide_false, Bool.true_and, Bool.and_true, Bool.false_and, Bool.and_false, if_true, if_false, Bool.false_eq_true, Option.isSome_some, Option.getD_some, not_true_eq_false, not_false_eq_true, Option.toList_some, Option.toList_none, List.cons_append, List.nil_append, t11]
  clear t11 q11 k11 l11 a10
  obtain ⟨H12, t12, q12, k12, l12, a12⟩ := fn_arr (kd := (2, 64)) (j := 19) (f := 64) a11 (by decide) (by decide +kernel) (by decide +kernel) (by decide) (fn_Rj (by decide) (by decide +kernel)) kk
  replace l12 : (fl_mk H11 (2, 64) 64).1.1 = 272 := l12
  replace a12 : fl_pg k0 h H12 259 272 1212 _ _ := a12
  have e12 : fl_Rn fl_C 30 91 [some (.ref 259)] [] H11 = fl_Rn fl_C 30 99 [some (.ref 259)] [] H12 := by
    clear a11 a12
    rw [fbC_30_91]
    simp (disch := omega) only [q12, k12, l12, fl_lit, fl_nadd, fl_nmul, fl_ndiv, fl_nsub, fl_msub, fl_nle, fl_nlt, fl_neq, fl_nclamp, fl_nin, fl_ltT, fl_ltF, fl_leT, fl_leF, fl_eqT, fl_eqF, decide_true, decide_false, Bool.true_and, Bool.and_true, Bool.false_and, Bool.and_false, if_true, if_false, Bool.false_eq_true, Option.isSome_some, Option.getD_some, not_true_eq_false, not_false_eq_true, Option.toList_some, Option.toList_none, List.cons_append, List.nil_append, t12]
  clear t12 q12 k12 l12 a11
  obtain ⟨H13, t13, q13, k13, l13, a13⟩ := fn_arr (kd := (2, 64)) (j := 20) (f := 64) a12 (by decide) (by decide +kernel) (by decide +kernel) (by decide) (fn_Rj (by decide) (by decide +kernel)) kk
  replace l13 : (fl_mk H12 (2, 64) 64).1.1 = 273 := l13
  replace a13 : fl_pg k0 h H13 259 273 1276 _ _ := a13
  have e13 : fl_Rn fl_C 30 99 [some (.ref 259)] [] H12 = fl_Rn fl_C 30 107 [some (.ref 259)] [] H13 := by
    clear a12 a13
    rw [fbC_30_99]
    simp (disch := omega) only [q13, k13, l13, fl_lit, fl_nadd, fl_nmul, fl_ndiv, fl_nsub, fl_msub, fl_nle, fl_nlt, fl_neq, fl_nclamp, fl_nin, fl_ltT, fl_ltF, fl_leT, fl_leF, fl_eqT, fl_eqF, decide_true, decide_false, Bool.true_and, Bool.and_true, Bool.false_and, Bool.and_false, if_true, if_false, Bool.false_eq_true, Option.isSome_some, Option.getD_some, not_true_eq_false, not_false_eq_true, Option.toList_some, Option.toList_none, List.cons_append, List.nil_append, t13]
  clear t13 q13 k13 l13 a12
  obtain ⟨H14, t14, q14, k14, l14, a14⟩ := fn_arr (kd := (2, 64)) (j := 21) (f := 64) a13 (by decide) (by decide +kernel) (by decide +kernel) (by decide) (fn_Rj (by decide) (by decide +kernel)) kk
  replace l14 : (fl_mk H13 (2, 64) 64).1.1 = 274 := l14
  replace a14 : fl_pg k0 h H14 259 274 1340 _ _ := a14
  have e14 : fl_Rn fl_C 30 107 [some (.ref 259)] [] H13 = fl_Rn fl_C 30 115 [some (.ref 259)] [] H14 := by
    clear a13 a14
    rw [fbC_30_107]
    simp (disch := omega) only [q14, k14, l14, fl_lit, fl_nadd, fl_nmul, fl_ndiv, fl_nsub, fl_msub, fl_nle, fl_nlt, fl_neq, fl_nclamp, fl_nin, fl_ltT, fl_ltF, fl_leT, fl_leF, fl_eqT, fl_eqF, decide_true, decide_false, Bool.true_and, Bool.and_true, Bool.false_and, Bool.and_false, if_true, if_false, Bool.false_eq_true, Option.isSome_some, Option.getD_some, not_true_eq_false, not_false_eq_true, Option.toList_some, Option.toList_none, List.cons_append, List.nil_append, t14]
  clear t14 q14 k14 l14 a13
  obtain ⟨H15, t15, q15, k15, l15, a15⟩ := fn_arr (kd := (2, 768)) (j := 22) (f := 768) a14 (by decide) (by decide +kernel) (by decide +kernel) (by decide) (fn_Rj (by decide) (by decide +kernel)) kk
  replace l15 : (fl_mk H14 (2, 768) 768).1.1 = 275 := l15
  replace a15 : fl_pg k0 h H15 259 275 2108 _ _ := a15
  have e15 : fl_Rn fl_C 30 115 [some (.ref 259)] [] H14 = fl_Rn fl_C 30 124 [some (.ref 259)] [] H15 := by
    clear a14 a15
    rw [fbC_30_115]
    simp (disch := omega) only [q15, k15, l15, fl_lit, fl_nadd, fl_nmul, fl_ndiv, fl_nsub, fl_msub, fl_nle, fl_nlt, fl_neq, fl_nclamp, fl_nin, fl_ltT, fl_ltF, fl_leT, fl_leF, fl_eqT, fl_eqF, decide_true, decide_false, Bool.true_and, Bool.and_true, Bool.false_and, Bool.and_false, if_true, if_false, Bool.false_eq_true, Option.isSome_some, Option.getD_some, not_true_eq_false, not_false_eq_true, Option.toList_some, Option.toList_none, List.cons_append, List.nil_append, t15]
  clear t15 q15 k15 l15 a14
  obtain ⟨H16, t16, q16, k16, l16, a16⟩ := fn_arr (kd := (2, 768)) (j := 23) (f := 768) a15 (by decide) (by decide +kernel) (by decide +kernel) (by decide) (fn_Rj (by decide) (by decide +kernel)) kk
  replace l16 : (fl_mk H15 (2, 768) 768).1.1 = 276 := l16
  replace a16 : fl_pg k0 h H16 259 276 2876 _ _ := a16
  have e16 : fl_Rn fl_C 30 124 [some (.ref 259)] [] H15 = fl_Rn fl_C 30 133 [some (.ref 259)] [] H16 := by
    clear a15 a16
    rw [fbC_30_124]
    simp (disch := omega) only [q16, k16, l16, fl_lit, fl_nadd, fl_nmul, fl_ndiv, fl_nsub, fl_msub, fl_nle, fl_nlt, fl_neq, fl_nclamp, fl_nin, fl_ltT, fl_ltF, fl_leT, fl_leF, fl_eqT, fl_eqF, decide_true, decide_false, Bool.true_and, Bool.and_true, Bool.false_and, Bool.and_false, if_true, if_false, Bool.false_eq_true, Option.isSome_some, Option.getD_some, not_true_eq_false, not_false_eq_true, Option.toList_some, Option.toList_none, List.cons_append, List.nil_append, t16]
  clear t16 q16 k16 l16 a15
  obtain ⟨H17, t17, q17, k17, l17, a17⟩ := fn_arr (kd := (2, 64)) (j := 24) (f := 64) a16 (by decide) (by decide +kernel) (by decide +kernel) (by decide) (fn_Rj (by decide) (by decide +kernel)) kk
  replace l17 : (fl_mk H16 (2, 64) 64).1.1 = 277 := l17
  replace a17 : fl_pg k0 h H17 259 277 2940 _ _ := a17
  have e17 : fl_Rn fl_C 30 133 [some (.ref 259)] [] H16 = fl_Rn fl_C 30 141 [some (.ref 259)] [] H17 := by
    clear a16 a17
    rw [fbC_30_133]
    simp (disch := omega) only [q17, k17, l17, fl_lit, fl_nadd, fl_nmul, fl_ndiv, fl_nsub, fl_msub, fl_nle, fl_nlt, fl_neq, fl_nclamp, fl_nin, fl_ltT, fl_ltF, fl_leT, fl_leF, fl_eqT, fl_eqF, decide_true, decide_false, Bool.true_and, Bool.and_true, Bool.false_and, Bool.and_false, if_true, if_false, Bool.false_eq_true, Option.isSome_some, Option.getD_some, not_true_eq_false, not_false_eq_true, Option.toList_some, Option.toList_none, List.cons_append, List.nil_append, t17]
  clear t17 q17 k17 l17 a16
  obtain ⟨H18, t18, q18, k18, l18, a18⟩ := fn_arr (kd := (2, 730)) (j := 25) (f := 730) a17 (by decide) (by decide +kernel) (by decide +kernel) (by decide) (fn_Rj (by decide) (by decide +kernel)) kk
  replace l18 : (fl_mk H17 (2, 730) 730).1.1 = 278 := l18
  replace a18 : fl_pg k0 h H18 259 278 3670 _ _ := a18
  have e18 : fl_Rn fl_C 30 141 [some (.ref 259)] [] H17 = fl_Rn fl_C 30 150 [some (.ref 259)] [] H18 := by
    clear a17 a18
    rw [fbC_30_141]
    simp (disch := omega) only [q18, k18, l18, fl_lit, fl_nadd, fl_nmul, fl_ndiv, fl_nsub, fl_msub, fl_nle, fl_nlt, fl_neq, fl_nclamp, fl_nin, fl_ltT, fl_ltF, fl_leT, fl_leF, fl_eqT, fl_eqF, decide_true, decide_false, Bool.true_and, Bool.and_true, Bool.false_and, Bool.and_false, if_true, if_false, Bool.false_eq_true, Option.isSome_some, Option.getD_some, not_true_eq_false, not_false_eq_true, Option.toList_some, Option.toList_none, List.cons_append, List.nil_append, t18]
  clear t18 q18 k18 l18 a17
  obtain ⟨H19, t19, q19, k19, l19, a19⟩ := fn_arr (kd := (2, 730)) (j := 26) (f := 730) a18 (by decide) (by decide +kernel) (by decide +kernel) (by decide) (fn_Rj (by decide) (by decide +kernel)) kk
  replace l19 : (fl_mk H18 (2, 730) 730).1.1 = 279 := l19
  replace a19 : fl_pg k0 h H19 259 279 4400 _ _ := a19
  have e19 : fl_Rn fl_C 30 150 [some (.ref 259)] [] H18 = fl_Rn fl_C 30 159 [some (.ref 259)] [] H19 := by
    clear a18 a19
    rw [fbC_30_150]
    simp (disch := omega) only [q19, k19, l19, fl_lit, fl_nadd, fl_nmul, fl_ndiv, fl_nsub, fl_msub, fl_nle, fl_nlt, fl_neq, fl_nclamp, fl_nin, fl_ltT, fl_ltF, fl_leT, fl_leF, fl_eqT, fl_eqF, decide_true, decide_false, Bool.true_and, Bool.and_true, Bool.false_and, Bool.and_false, if_true, if_false, Bool.false_eq_true, Option.isSome_some, Option.getD_some, not_true_eq_false, not_false_eq_true, Option.toList_some, Option.toList_none, List.cons_append, List.nil_append, t19]
  clear t19 q19 k19 l19 a18
  obtain ⟨H20, t20, q20, k20, l20, a20⟩ := fn_arr (kd := (2, 730)) (j := 27) (f := 730) a19 (by decide) (by decide +kernel) (by decide +kernel) (by decide) (fn_Rj (by decide) (by decide +kernel)) kk
  replace l20 : (fl_mk H19 (2, 730) 730).1.1 = 280 := l20
  replace a20 : fl_pg k0 h H20 259 280 5130 _ _ := a20
  have e20 : fl_Rn fl_C 30 159 [some (.ref 259)] [] H19 = fl_Rn fl_C 30 168 [some (.ref 259)] [] H20 := by
    clear a19 a20
    rw [fbC_30_159]
    simp (disch := omega) only [q20, k20, l20, fl_lit, fl_nadd, fl_nmul, fl_ndiv, fl_nsub, fl_msub, fl_nle, fl_nlt, fl_neq, fl_nclamp, fl_nin, fl_ltT, fl_ltF, fl_leT, fl_leF, fl_eqT, fl_eqF, decide_true, decide_false, Bool.true_and, Bool.and_true, Bool.false_and, Bool.and_false, if_true, if_false, Bool.false_eq_true, Option.isSome_some, Option.getD_some, not_true_eq_false, not_false_eq_true, Option.toList_some, Option.toList_none, List.cons_append, List.nil_append, t20]
  clear t20 q20 k20 l20 a19
  obtain ⟨H21, t21, q21, k21, l21, a21⟩ := fn_arr (kd := (2, 730)) (j := 28) (f := 730) a20 (by decide) (by decide +kernel) (by decide +kernel) (by decide) (fn_Rj (by decide) (by decide +kernel)) kk
  replace l21 : (fl_mk H20 (2, 730) 730).1.1 = 281 := l21
  replace a21 : fl_pg k0 h H21 259 281 5860 _ _ := a21
  have e21 : fl_Rn fl_C 30 168 [some (.ref 259)] [] H20 = fl_Rn fl_C 30 177 [some (.ref 259)] [] H21 := by
    clear a20 a21
    rw [fbC_30_168]
    simp (disch := omega) only [q21, k21, l21, fl_lit, fl_nadd, fl_nmul, fl_ndiv, fl_nsub, fl_msub, fl_nle, fl_nlt, fl_neq, fl_nclamp, fl_nin, fl_ltT, fl_ltF, fl_leT, fl_leF, fl_eqT, fl_eqF, decide_true, decide_false, Bool.true_and, Bool.and_true, Bool.false_and, Bool.and_false, if_true, if_false, Bool.false_eq_true, Option.isSome_some, Option.getD_some, not_true_eq_false, not_false_eq_true, Option.toList_some, Option.toList_none, List.cons_append, List.nil_append, t21]
  clear t21 q21 k21 l21 a20
  obtain ⟨H22, t22, q22, k22, l22, a22⟩ := fn_arr (kd := (2, 6)) (j := 30) (f := 6) a21 (by decide) (by decide +kernel) (by decide +kernel) (by decide) (fn_Rj (by decide) (by decide +kernel)) kk
  replace l22 : (fl_mk H21 (2, 6) 6).1.1 = 282 := l22
  replace a22 : fl_pg k0 h H22 259 282 5866 _ _ := a22
  have e22 : fl_Rn fl_C 30 177 [some (.ref 259)] [] H21 = fl_Rn fl_C 30 185 [some (.ref 259)] [] H22 := by
    clear a21 a22
    rw [fbC_30_177]
    simp (disch := omega) only [q22, k22, l22, fl_lit, fl_nadd, fl_nmul, fl_ndiv, fl_nsub, fl_msub, fl_nle, fl_nlt, fl_neq, fl_nclamp, fl_nin, fl_ltT, fl_ltF, fl_leT, fl_leF, fl_eqT, fl_eqF, decide_true, decide_false, Bool.true_and, Bool.and_true, Bool.false_and, Bool.and_false, if_true, if_false, Bool.false_eq_true, Option.isSome_some, Option.getD_some, not_true_eq_false, not_false_eq_true, Option.toList_some, Option.toList_none, List.cons_append, List.nil_append, t22]
  clear t22 q22 k22 l22 a21
  obtain ⟨H23, t23, q23, k23, l23, a23⟩ := fn_arr (kd := (2, 64)) (j := 31) (f := 64) a22 (by decide) (by decide +kernel) (by decide +kernel) (by decide) (fn_Rj (by decide) (by decide +kernel)) kk
  replace l23 : (fl_mk H22 (2, 64) 64).1.1 = 283 := l23
  replace a23 : fl_pg k0 h H23 259 283 5930 _ _ := a23
  have e23 : fl_Rn fl_C 30 185 [some (.ref 259)] [] H22 = fl_Rn fl_C 30 193 [some (.ref 259)] [] H23 := by
    clear a22 a23
    rw [fbC_30_185]
    simp (disch := omega) only [q23, k23, l23, fl_lit, fl_nadd, fl_nmul, fl_ndiv, fl_nsub, fl_msub, fl_nle, fl_nlt, fl_neq, fl_nclamp, fl_nin, fl_ltT, fl_ltF, fl_leT, fl_leF, fl_eqT, fl_eqF, decide_true, decide_false, Bool.true_and, Bool.and_true, Bool.false_and, Bool.and_false, if_true, if_false, Bool.false_eq_true, Option.isSome_some, Option.getD_some, not_true_eq_false, not_false_eq_true, Option.toList_some, Option.toList_none, List.cons_append, List.nil_append, t23]
  clear t23 q23 k23 l23 a22
  obtain ⟨H24, t24, q24, k24, l24, a24⟩ := fn_arr (kd := (4, 2)) (j := 33) (f := 2) a23 (by decide) (by decide +kernel) (by decide +kernel) (by decide) (fn_Rj (by decide) (by decide +kernel)) kk
  replace l24 : (fl_mk H23 (4, 2) 2).1.1 = 284 := l24
  replace a24 : fl_pg k0 h H24 259 284 5932 _ _ := a24
  have e24 : fl_Rn fl_C 30 193 [some (.ref 259)] [] H23 = fl_Rn fl_C 30 200 [some (.ref 259)] [] H24 := by
    clear a23 a24
    rw [fbC_30_193]
    simp (disch := omega) only [q24, k24, l24, fl_lit, fl_nadd, fl_nmul, fl_ndiv, fl_nsub, fl_msub, fl_nle, fl_nlt, fl_neq, fl_nclamp, fl_nin, fl_ltT, fl_ltF, fl_leT, fl_leF, fl_eqT, fl_eqF, decide_true, decide_false, Bool.true_and, Bool.and_true, Bool.false_and, Bool.and_false, if_true, if_false, Bool.false_eq_true, Option.isSome_some, Option.getD_some, not_true_eq_false, not_false_eq_true, Option.toList_some, Option.toList_none, List.cons_append, List.nil_append, t24]
  clear t24 q24 k24 l24 a23
  refine ⟨H24, 5932, e1.trans (e2.trans (e3.trans (e4.trans (e5.trans (e6.trans (e7.trans (e8.trans (e9.trans (e10.trans (e11.trans (e12.trans (e13.trans (e14.trans (e15.trans (e16.trans (e17.trans (e18.trans (e19.trans (e20.trans (e21.trans (e22.trans (e23.trans (e24))))))))))))))))))))))), fn_done (m := 25) a24 (fun j z => ?_) (fun j => (fn_J0 (by decide) j).symm), by omega⟩
  clear e1 e2 e3 e4 e5 e6 e7 e8 e9 e10 e11 e12 e13 e14 e15 e16 e17 e18 e19 e20 e21 e22 e23 e24
  by_cases j4 : 34 ≤ j
  · exact fn_Rn (by decide) j4
  · rcases (show j = 0 ∨ j = 1 ∨ j = 2 ∨ j = 3 ∨ j = 4 ∨ j = 5 ∨ j = 6 ∨ j = 7 ∨ j = 8 ∨ j = 9 ∨ j = 10 ∨ j = 11 ∨ j = 12 ∨ j = 13 ∨ j = 14 ∨ j = 15 ∨ j = 16 ∨ j = 17 ∨ j = 18 ∨ j = 19 ∨ j = 20 ∨ j = 21 ∨ j = 22 ∨ j = 23 ∨ j = 24 ∨ j = 25 ∨ j = 26 ∨ j = 27 ∨ j = 28 ∨ j = 29 ∨ j = 30 ∨ j = 31 ∨ j = 32 ∨ j = 33 by omega) with e | e | e | e | e | e | e | e | e | e | e | e | e | e | e | e | e | e | e | e | e | e | e | e | e | e | e | e | e | e | e | e | e | e <;> subst e <;> first | exact absurd z (by decide) | rfl
end
