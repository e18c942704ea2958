/-! THE LAW, a step: calls that do not throw (printed by wip/whole/genlaw.py) -/
section
variable {k0 : Nat → Nat × Nat} {i0 : Nat → Nat → Int32} {h : fl_H} {xs : Nat → Int32} {L i : Nat} {c : Nat × Nat × Nat × Bool}
/-- the strings and the script stay, through both calls -/
theorem fw_st {x m : Nat} {as bs : List Value} {v w : Option Value} {h1 h2 : fl_H} (hg : fl_g k0 h) (hs : fl_st k0 i0 h) (a : fl_cl fl_C x as h = some (some v, h1)) (b : fl_cl fl_C m bs h1 = some (some w, h2)) (c2 : h2.1.1 ≤ 285) : (∀ q, 285 ≤ q → 5 ≤ (k0 q).1 → fl_k h1 q = k0 q ∧ fl_i h1 q = i0 q) ∧ ∀ q, 285 ≤ q → 5 ≤ (k0 q).1 → fl_i h2 q = i0 q := by
  have s1 := fl_cl_sx a
  have s2 := fl_cl_sx b
  have c1 : h1.1.1 ≤ 285 := Nat.le_trans s2.1 c2
  have k : ∀ q, 285 ≤ q → fl_k h q = k0 q := fun q z => by
    rw [hg.1]; unfold fl_KK; rw [if_neg (by omega)]
  have r1 : ∀ q, 285 ≤ q → 5 ≤ (k0 q).1 → fl_k h1 q = k0 q ∧ fl_i h1 q = i0 q := fun q z z5 => by
    have y := s1.2 c1 q z
    exact ⟨y.1.trans (k q z), (y.2 (by rw [k q z]; exact z5)).trans (hs q z z5)⟩
  refine ⟨r1, fun q z z5 => ?_⟩
  have y := s2.2 c2 q z
  exact (y.2 (by rw [(r1 q z z5).1]; exact z5)).trans (r1 q z z5).2
theorem fw_sign (sk : fl_sk k0 i0) (kx : k0 1048608 = (6, L)) (ix : i0 1048608 = xs) (hL : L < 10000) (c2 : c.1 ≤ 285) (I : fl_Inv k0 c h) (hs : fl_st k0 i0 h) (hi : i + 3 ≤ L) (ho : xs i &&& Int32.ofNat 31 = Int32.ofNat 0) : ∃ h', fl_Rn fl_C 265 23 [some (.ref 1048608), some (.ref 0), some (.ref 259), some (.ref 284), some (.int (Int32.ofNat i))] [] h = fl_Rn fl_C 265 23 [some (.ref 1048608), some (.ref 0), some (.ref 259), some (.ref 284), some (.int (Int32.ofNat (i + 3)))] [] h' ∧ fl_Inv k0 c h' ∧ fl_st k0 i0 h' := by
  obtain ⟨v, h1, h2, a, b, J⟩ := fo_sign I (xs (i + 1))
  have s := fw_st I.1 hs a b (by rw [J.2.1]; exact c2)
  refine ⟨h2, ?_, J, s.2⟩
  have q5 : 5 ≤ (k0 1048608).1 := by rw [kx]; exact (show 5 ≤ 6 by decide)
  have s1 := s.1 1048608 (by omega) q5
  have K1 : fl_k h1 1048608 = (6, L) := s1.1.trans kx
  have X1 : fl_i h1 1048608 = xs := s1.2.trans ix
  have X0 : fl_i h 1048608 = xs := (hs 1048608 (by omega) q5).trans ix
  have K0 : fl_k h 1048608 = (6, L) := by rw [I.1.1]; unfold fl_KK; rw [if_neg (by omega)]; exact kx
  have k10 : fl_k h 0 = (1, 10) := by rw [I.1.1]; exact fl_KF
  have k11 : fl_k h1 259 = (1, 11) := by
    by_cases z : fl_k h1 259 = (1, 11)
    · exact z
    · exfalso
      rw [fbE_34] at b
      simp only [z, decide_false, Bool.false_and, Bool.false_eq_true, if_false, reduceCtorEq] at b
  clear I J s s1 hs sk q5 kx ix
  rw [fbC_265_23]
  simp (disch := omega) only [K0, K1, X0, X1, k10, k11, fl_lit, fl_nadd, fl_nmul, fl_ndiv, fl_nsub, fl_msub, fl_nle, fl_nlt, fl_neq, fl_nclamp, fl_nin, fl_ltT, fl_ltF, fl_leT, fl_leF, fl_eqT, fl_eqF, decide_true, decide_false, Bool.true_and, Bool.and_true, Bool.false_and, Bool.and_false, if_true, if_false, Bool.false_eq_true, Option.isSome_some, Option.getD_some, not_true_eq_false, not_false_eq_true, Option.toList_some, Option.toList_none, List.cons_append, List.nil_append, fbC_265_36, ho, fbC_265_178, fbP_265_182, fbC_265_188, fbP_265_192, a, b, fbC_265_942]
theorem fw_end (sk : fl_sk k0 i0) (kx : k0 1048608 = (6, L)) (ix : i0 1048608 = xs) (hL : L < 10000) (c2 : c.1 ≤ 285) (I : fl_Inv k0 c h) (hs : fl_st k0 i0 h) (hi : i + 3 ≤ L) (ho : xs i &&& Int32.ofNat 31 = Int32.ofNat 1) : ∃ h', fl_Rn fl_C 265 23 [some (.ref 1048608), some (.ref 0), some (.ref 259), some (.ref 284), some (.int (Int32.ofNat i))] [] h = fl_Rn fl_C 265 23 [some (.ref 1048608), some (.ref 0), some (.ref 259), some (.ref 284), some (.int (Int32.ofNat (i + 3)))] [] h' ∧ fl_Inv k0 c h' ∧ fl_st k0 i0 h' := by
  obtain ⟨v, h1, h2, a, b, J⟩ := fo_end I (xs (i + 1))
  have s := fw_st I.1 hs a b (by rw [J.2.1]; exact c2)
  refine ⟨h2, ?_, J, s.2⟩
  have q5 : 5 ≤ (k0 1048608).1 := by rw [kx]; exact (show 5 ≤ 6 by decide)
  have s1 := s.1 1048608 (by omega) q5
  have K1 : fl_k h1 1048608 = (6, L) := s1.1.trans kx
  have X1 : fl_i h1 1048608 = xs := s1.2.trans ix
  have X0 : fl_i h 1048608 = xs := (hs 1048608 (by omega) q5).trans ix
  have K0 : fl_k h 1048608 = (6, L) := by rw [I.1.1]; unfold fl_KK; rw [if_neg (by omega)]; exact kx
  have k10 : fl_k h 0 = (1, 10) := by rw [I.1.1]; exact fl_KF
  have k11 : fl_k h1 259 = (1, 11) := by
    by_cases z : fl_k h1 259 = (1, 11)
    · exact z
    · exfalso
      rw [fbE_38] at b
      simp only [z, decide_false, Bool.false_and, Bool.false_eq_true, if_false, reduceCtorEq] at b
  clear I J s s1 hs sk q5 kx ix
  rw [fbC_265_23]
  simp (disch := omega) only [K0, K1, X0, X1, k10, k11, fl_lit, fl_nadd, fl_nmul, fl_ndiv, fl_nsub, fl_msub, fl_nle, fl_nlt, fl_neq, fl_nclamp, fl_nin, fl_ltT, fl_ltF, fl_leT, fl_leF, fl_eqT, fl_eqF, decide_true, decide_false, Bool.true_and, Bool.and_true, Bool.false_and, Bool.and_false, if_true, if_false, Bool.false_eq_true, Option.isSome_some, Option.getD_some, not_true_eq_false, not_false_eq_true, Option.toList_some, Option.toList_none, List.cons_append, List.nil_append, fbC_265_36, ho, fbC_265_203, fbP_265_207, fbC_265_213, fbP_265_217, a, b, fbC_265_942]
theorem fw_net (sk : fl_sk k0 i0) (kx : k0 1048608 = (6, L)) (ix : i0 1048608 = xs) (hL : L < 10000) (c2 : c.1 ≤ 285) (I : fl_Inv k0 c h) (hs : fl_st k0 i0 h) (hi : i + 3 ≤ L) (ho : xs i &&& Int32.ofNat 31 = Int32.ofNat 2) : ∃ h', fl_Rn fl_C 265 23 [some (.ref 1048608), some (.ref 0), some (.ref 259), some (.ref 284), some (.int (Int32.ofNat i))] [] h = fl_Rn fl_C 265 23 [some (.ref 1048608), some (.ref 0), some (.ref 259), some (.ref 284), some (.int (Int32.ofNat (i + 3)))] [] h' ∧ fl_Inv k0 c h' ∧ fl_st k0 i0 h' := by
  obtain ⟨v, h1, h2, a, b, J⟩ := fo_net sk hs I 
  have s := fw_st I.1 hs a b (by rw [J.2.1]; exact c2)
  refine ⟨h2, ?_, J, s.2⟩
  have q5 : 5 ≤ (k0 1048608).1 := by rw [kx]; exact (show 5 ≤ 6 by decide)
  have s1 := s.1 1048608 (by omega) q5
  have K1 : fl_k h1 1048608 = (6, L) := s1.1.trans kx
  have X1 : fl_i h1 1048608 = xs := s1.2.trans ix
  have X0 : fl_i h 1048608 = xs := (hs 1048608 (by omega) q5).trans ix
  have K0 : fl_k h 1048608 = (6, L) := by rw [I.1.1]; unfold fl_KK; rw [if_neg (by omega)]; exact kx
  have k10 : fl_k h 0 = (1, 10) := by rw [I.1.1]; exact fl_KF
  have k11 : fl_k h1 259 = (1, 11) := by
    by_cases z : fl_k h1 259 = (1, 11)
    · exact z
    · exfalso
      rw [fbE_89] at b
      simp only [z, decide_false, Bool.false_and, Bool.false_eq_true, if_false, reduceCtorEq] at b
  clear I J s s1 hs sk q5 kx ix
  rw [fbC_265_23]
  simp (disch := omega) only [K0, K1, X0, X1, k10, k11, fl_lit, fl_nadd, fl_nmul, fl_ndiv, fl_nsub, fl_msub, fl_nle, fl_nlt, fl_neq, fl_nclamp, fl_nin, fl_ltT, fl_ltF, fl_leT, fl_leF, fl_eqT, fl_eqF, decide_true, decide_false, Bool.true_and, Bool.and_true, Bool.false_and, Bool.and_false, if_true, if_false, Bool.false_eq_true, Option.isSome_some, Option.getD_some, not_true_eq_false, not_false_eq_true, Option.toList_some, Option.toList_none, List.cons_append, List.nil_append, fbC_265_36, ho, fbP_265_226, fbP_265_230, a, b, fbC_265_942]
theorem fw_cause (sk : fl_sk k0 i0) (kx : k0 1048608 = (6, L)) (ix : i0 1048608 = xs) (hL : L < 10000) (c2 : c.1 ≤ 285) (I : fl_Inv k0 c h) (hs : fl_st k0 i0 h) (hi : i + 3 ≤ L) (ho : xs i &&& Int32.ofNat 31 = Int32.ofNat 3) : ∃ h', fl_Rn fl_C 265 23 [some (.ref 1048608), some (.ref 0), some (.ref 259), some (.ref 284), some (.int (Int32.ofNat i))] [] h = fl_Rn fl_C 265 23 [some (.ref 1048608), some (.ref 0), some (.ref 259), some (.ref 284), some (.int (Int32.ofNat (i + 3)))] [] h' ∧ fl_Inv k0 c h' ∧ fl_st k0 i0 h' := by
  obtain ⟨v, h1, h2, a, b, J⟩ := fo_cause I (xs (i + 1)) (xs (i + 2))
  have s := fw_st I.1 hs a b (by rw [J.2.1]; exact c2)
  refine ⟨h2, ?_, J, s.2⟩
  have q5 : 5 ≤ (k0 1048608).1 := by rw [kx]; exact (show 5 ≤ 6 by decide)
  have s1 := s.1 1048608 (by omega) q5
  have K1 : fl_k h1 1048608 = (6, L) := s1.1.trans kx
  have X1 : fl_i h1 1048608 = xs := s1.2.trans ix
  have X0 : fl_i h 1048608 = xs := (hs 1048608 (by omega) q5).trans ix
  have K0 : fl_k h 1048608 = (6, L) := by rw [I.1.1]; unfold fl_KK; rw [if_neg (by omega)]; exact kx
  have k10 : fl_k h 0 = (1, 10) := by rw [I.1.1]; exact fl_KF
  have k11 : fl_k h1 259 = (1, 11) := by
    by_cases z : fl_k h1 259 = (1, 11)
    · exact z
    · exfalso
      rw [fbE_91] at b
      simp only [z, decide_false, Bool.false_and, Bool.false_eq_true, if_false, reduceCtorEq] at b
  clear I J s s1 hs sk q5 kx ix
  rw [fbC_265_23]
  simp (disch := omega) only [K0, K1, X0, X1, k10, k11, fl_lit, fl_nadd, fl_nmul, fl_ndiv, fl_nsub, fl_msub, fl_nle, fl_nlt, fl_neq, fl_nclamp, fl_nin, fl_ltT, fl_ltF, fl_leT, fl_leF, fl_eqT, fl_eqF, decide_true, decide_false, Bool.true_and, Bool.and_true, Bool.false_and, Bool.and_false, if_true, if_false, Bool.false_eq_true, Option.isSome_some, Option.getD_some, not_true_eq_false, not_false_eq_true, Option.toList_some, Option.toList_none, List.cons_append, List.nil_append, fbC_265_36, ho, fbC_265_241, fbC_265_242, fbC_265_247, fbP_265_251, fbC_265_257, fbC_265_258, fbC_265_263, fbP_265_267, a, b, fbC_265_942]
theorem fw_applies (sk : fl_sk k0 i0) (kx : k0 1048608 = (6, L)) (ix : i0 1048608 = xs) (hL : L < 10000) (c2 : c.1 ≤ 285) (I : fl_Inv k0 c h) (hs : fl_st k0 i0 h) (hi : i + 3 ≤ L) (ho : xs i &&& Int32.ofNat 31 = Int32.ofNat 6) : ∃ h', fl_Rn fl_C 265 23 [some (.ref 1048608), some (.ref 0), some (.ref 259), some (.ref 284), some (.int (Int32.ofNat i))] [] h = fl_Rn fl_C 265 23 [some (.ref 1048608), some (.ref 0), some (.ref 259), some (.ref 284), some (.int (Int32.ofNat (i + 3)))] [] h' ∧ fl_Inv k0 c h' ∧ fl_st k0 i0 h' := by
  obtain ⟨v, h1, h2, a, b, J⟩ := fo_applies sk hs I 
  have s := fw_st I.1 hs a b (by rw [J.2.1]; exact c2)
  refine ⟨h2, ?_, J, s.2⟩
  have q5 : 5 ≤ (k0 1048608).1 := by rw [kx]; exact (show 5 ≤ 6 by decide)
  have s1 := s.1 1048608 (by omega) q5
  have K1 : fl_k h1 1048608 = (6, L) := s1.1.trans kx
  have X1 : fl_i h1 1048608 = xs := s1.2.trans ix
  have X0 : fl_i h 1048608 = xs := (hs 1048608 (by omega) q5).trans ix
  have K0 : fl_k h 1048608 = (6, L) := by rw [I.1.1]; unfold fl_KK; rw [if_neg (by omega)]; exact kx
  have k10 : fl_k h 0 = (1, 10) := by rw [I.1.1]; exact fl_KF
  have k11 : fl_k h1 259 = (1, 11) := by
    by_cases z : fl_k h1 259 = (1, 11)
    · exact z
    · exfalso
      rw [fbE_146] at b
      simp only [z, decide_false, Bool.false_and, Bool.false_eq_true, if_false, reduceCtorEq] at b
  clear I J s s1 hs sk q5 kx ix
  rw [fbC_265_23]
  simp (disch := omega) only [K0, K1, X0, X1, k10, k11, fl_lit, fl_nadd, fl_nmul, fl_ndiv, fl_nsub, fl_msub, fl_nle, fl_nlt, fl_neq, fl_nclamp, fl_nin, fl_ltT, fl_ltF, fl_leT, fl_leF, fl_eqT, fl_eqF, decide_true, decide_false, Bool.true_and, Bool.and_true, Bool.false_and, Bool.and_false, if_true, if_false, Bool.false_eq_true, Option.isSome_some, Option.getD_some, not_true_eq_false, not_false_eq_true, Option.toList_some, Option.toList_none, List.cons_append, List.nil_append, fbC_265_36, ho, fbP_265_400, fbP_265_404, a, b, fbC_265_942]
theorem fw_would (sk : fl_sk k0 i0) (kx : k0 1048608 = (6, L)) (ix : i0 1048608 = xs) (hL : L < 10000) (c2 : c.1 ≤ 285) (I : fl_Inv k0 c h) (hs : fl_st k0 i0 h) (hi : i + 3 ≤ L) (ho : xs i &&& Int32.ofNat 31 = Int32.ofNat 7) : ∃ h', fl_Rn fl_C 265 23 [some (.ref 1048608), some (.ref 0), some (.ref 259), some (.ref 284), some (.int (Int32.ofNat i))] [] h = fl_Rn fl_C 265 23 [some (.ref 1048608), some (.ref 0), some (.ref 259), some (.ref 284), some (.int (Int32.ofNat (i + 3)))] [] h' ∧ fl_Inv k0 c h' ∧ fl_st k0 i0 h' := by
  obtain ⟨v, h1, h2, a, b, J⟩ := fo_would sk hs I 
  have s := fw_st I.1 hs a b (by rw [J.2.1]; exact c2)
  refine ⟨h2, ?_, J, s.2⟩
  have q5 : 5 ≤ (k0 1048608).1 := by rw [kx]; exact (show 5 ≤ 6 by decide)
  have s1 := s.1 1048608 (by omega) q5
  have K1 : fl_k h1 1048608 = (6, L) := s1.1.trans kx
  have X1 : fl_i h1 1048608 = xs := s1.2.trans ix
  have X0 : fl_i h 1048608 = xs := (hs 1048608 (by omega) q5).trans ix
  have K0 : fl_k h 1048608 = (6, L) := by rw [I.1.1]; unfold fl_KK; rw [if_neg (by omega)]; exact kx
  have k10 : fl_k h 0 = (1, 10) := by rw [I.1.1]; exact fl_KF
  have k11 : fl_k h1 259 = (1, 11) := by
    by_cases z : fl_k h1 259 = (1, 11)
    · exact z
    · exfalso
      rw [fbE_151] at b
      simp only [z, decide_false, Bool.false_and, Bool.false_eq_true, if_false, reduceCtorEq] at b
  clear I J s s1 hs sk q5 kx ix
  rw [fbC_265_23]
  simp (disch := omega) only [K0, K1, X0, X1, k10, k11, fl_lit, fl_nadd, fl_nmul, fl_ndiv, fl_nsub, fl_msub, fl_nle, fl_nlt, fl_neq, fl_nclamp, fl_nin, fl_ltT, fl_ltF, fl_leT, fl_leF, fl_eqT, fl_eqF, decide_true, decide_false, Bool.true_and, Bool.and_true, Bool.false_and, Bool.and_false, if_true, if_false, Bool.false_eq_true, Option.isSome_some, Option.getD_some, not_true_eq_false, not_false_eq_true, Option.toList_some, Option.toList_none, List.cons_append, List.nil_append, fbC_265_36, ho, fbP_265_413, fbP_265_417, a, b, fbC_265_942]
theorem fw_begins (sk : fl_sk k0 i0) (kx : k0 1048608 = (6, L)) (ix : i0 1048608 = xs) (hL : L < 10000) (c2 : c.1 ≤ 285) (I : fl_Inv k0 c h) (hs : fl_st k0 i0 h) (hi : i + 3 ≤ L) (ho : xs i &&& Int32.ofNat 31 = Int32.ofNat 8) : ∃ h', fl_Rn fl_C 265 23 [some (.ref 1048608), some (.ref 0), some (.ref 259), some (.ref 284), some (.int (Int32.ofNat i))] [] h = fl_Rn fl_C 265 23 [some (.ref 1048608), some (.ref 0), some (.ref 259), some (.ref 284), some (.int (Int32.ofNat (i + 3)))] [] h' ∧ fl_Inv k0 c h' ∧ fl_st k0 i0 h' := by
  obtain ⟨v, h1, h2, a, b, J⟩ := fo_begins I 
  have s := fw_st I.1 hs a b (by rw [J.2.1]; exact c2)
  refine ⟨h2, ?_, J, s.2⟩
  have q5 : 5 ≤ (k0 1048608).1 := by rw [kx]; exact (show 5 ≤ 6 by decide)
  have s1 := s.1 1048608 (by omega) q5
  have K1 : fl_k h1 1048608 = (6, L) := s1.1.trans kx
  have X1 : fl_i h1 1048608 = xs := s1.2.trans ix
  have X0 : fl_i h 1048608 = xs := (hs 1048608 (by omega) q5).trans ix
  have K0 : fl_k h 1048608 = (6, L) := by rw [I.1.1]; unfold fl_KK; rw [if_neg (by omega)]; exact kx
  have k10 : fl_k h 0 = (1, 10) := by rw [I.1.1]; exact fl_KF
  have k11 : fl_k h1 259 = (1, 11) := by
    by_cases z : fl_k h1 259 = (1, 11)
    · exact z
    · exfalso
      rw [fbE_153] at b
      simp only [z, decide_false, Bool.false_and, Bool.false_eq_true, if_false, reduceCtorEq] at b
  clear I J s s1 hs sk q5 kx ix
  rw [fbC_265_23]
  simp (disch := omega) only [K0, K1, X0, X1, k10, k11, fl_lit, fl_nadd, fl_nmul, fl_ndiv, fl_nsub, fl_msub, fl_nle, fl_nlt, fl_neq, fl_nclamp, fl_nin, fl_ltT, fl_ltF, fl_leT, fl_leF, fl_eqT, fl_eqF, decide_true, decide_false, Bool.true_and, Bool.and_true, Bool.false_and, Bool.and_false, if_true, if_false, Bool.false_eq_true, Option.isSome_some, Option.getD_some, not_true_eq_false, not_false_eq_true, Option.toList_some, Option.toList_none, List.cons_append, List.nil_append, fbC_265_36, ho, fbP_265_426, fbP_265_430, a, b, fbC_265_942]
theorem fw_drops (sk : fl_sk k0 i0) (kx : k0 1048608 = (6, L)) (ix : i0 1048608 = xs) (hL : L < 10000) (c2 : c.1 ≤ 285) (I : fl_Inv k0 c h) (hs : fl_st k0 i0 h) (hi : i + 3 ≤ L) (ho : xs i &&& Int32.ofNat 31 = Int32.ofNat 9) : ∃ h', fl_Rn fl_C 265 23 [some (.ref 1048608), some (.ref 0), some (.ref 259), some (.ref 284), some (.int (Int32.ofNat i))] [] h = fl_Rn fl_C 265 23 [some (.ref 1048608), some (.ref 0), some (.ref 259), some (.ref 284), some (.int (Int32.ofNat (i + 3)))] [] h' ∧ fl_Inv k0 c h' ∧ fl_st k0 i0 h' := by
  obtain ⟨v, h1, h2, a, b, J⟩ := fo_drops I (xs (i + 1))
  have s := fw_st I.1 hs a b (by rw [J.2.1]; exact c2)
  refine ⟨h2, ?_, J, s.2⟩
  have q5 : 5 ≤ (k0 1048608).1 := by rw [kx]; exact (show 5 ≤ 6 by decide)
  have s1 := s.1 1048608 (by omega) q5
  have K1 : fl_k h1 1048608 = (6, L) := s1.1.trans kx
  have X1 : fl_i h1 1048608 = xs := s1.2.trans ix
  have X0 : fl_i h 1048608 = xs := (hs 1048608 (by omega) q5).trans ix
  have K0 : fl_k h 1048608 = (6, L) := by rw [I.1.1]; unfold fl_KK; rw [if_neg (by omega)]; exact kx
  have k10 : fl_k h 0 = (1, 10) := by rw [I.1.1]; exact fl_KF
  have k11 : fl_k h1 259 = (1, 11) := by
    by_cases z : fl_k h1 259 = (1, 11)
    · exact z
    · exfalso
      rw [fbE_156] at b
      simp only [z, decide_false, Bool.false_and, Bool.false_eq_true, if_false, reduceCtorEq] at b
  clear I J s s1 hs sk q5 kx ix
  rw [fbC_265_23]
  simp (disch := omega) only [K0, K1, X0, X1, k10, k11, fl_lit, fl_nadd, fl_nmul, fl_ndiv, fl_nsub, fl_msub, fl_nle, fl_nlt, fl_neq, fl_nclamp, fl_nin, fl_ltT, fl_ltF, fl_leT, fl_leF, fl_eqT, fl_eqF, decide_true, decide_false, Bool.true_and, Bool.and_true, Bool.false_and, Bool.and_false, if_true, if_false, Bool.false_eq_true, Option.isSome_some, Option.getD_some, not_true_eq_false, not_false_eq_true, Option.toList_some, Option.toList_none, List.cons_append, List.nil_append, fbC_265_36, ho, fbC_265_441, fbP_265_445, fbC_265_451, fbP_265_455, a, b, fbC_265_942]
theorem fw_value (sk : fl_sk k0 i0) (kx : k0 1048608 = (6, L)) (ix : i0 1048608 = xs) (hL : L < 10000) (c2 : c.1 ≤ 285) (I : fl_Inv k0 c h) (hs : fl_st k0 i0 h) (hi : i + 3 ≤ L) (ho : xs i &&& Int32.ofNat 31 = Int32.ofNat 10) : ∃ h', fl_Rn fl_C 265 23 [some (.ref 1048608), some (.ref 0), some (.ref 259), some (.ref 284), some (.int (Int32.ofNat i))] [] h = fl_Rn fl_C 265 23 [some (.ref 1048608), some (.ref 0), some (.ref 259), some (.ref 284), some (.int (Int32.ofNat (i + 3)))] [] h' ∧ fl_Inv k0 c h' ∧ fl_st k0 i0 h' := by
  obtain ⟨v, h1, h2, a, b, J⟩ := fo_value I (xs (i + 1))
  have s := fw_st I.1 hs a b (by rw [J.2.1]; exact c2)
  refine ⟨h2, ?_, J, s.2⟩
  have q5 : 5 ≤ (k0 1048608).1 := by rw [kx]; exact (show 5 ≤ 6 by decide)
  have s1 := s.1 1048608 (by omega) q5
  have K1 : fl_k h1 1048608 = (6, L) := s1.1.trans kx
  have X1 : fl_i h1 1048608 = xs := s1.2.trans ix
  have X0 : fl_i h 1048608 = xs := (hs 1048608 (by omega) q5).trans ix
  have K0 : fl_k h 1048608 = (6, L) := by rw [I.1.1]; unfold fl_KK; rw [if_neg (by omega)]; exact kx
  have k10 : fl_k h 0 = (1, 10) := by rw [I.1.1]; exact fl_KF
  have k11 : fl_k h1 259 = (1, 11) := by
    by_cases z : fl_k h1 259 = (1, 11)
    · exact z
    · exfalso
      rw [fbE_161] at b
      simp only [z, decide_false, Bool.false_and, Bool.false_eq_true, if_false, reduceCtorEq] at b
  clear I J s s1 hs sk q5 kx ix
  rw [fbC_265_23]
  simp (disch := omega) only [K0, K1, X0, X1, k10, k11, fl_lit, fl_nadd, fl_nmul, fl_ndiv, fl_nsub, fl_msub, fl_nle, fl_nlt, fl_neq, fl_nclamp, fl_nin, fl_ltT, fl_ltF, fl_leT, fl_leF, fl_eqT, fl_eqF, decide_true, decide_false, Bool.true_and, Bool.and_true, Bool.false_and, Bool.and_false, if_true, if_false, Bool.false_eq_true, Option.isSome_some, Option.getD_some, not_true_eq_false, not_false_eq_true, Option.toList_some, Option.toList_none, List.cons_append, List.nil_append, fbC_265_36, ho, fbC_265_466, fbP_265_470, fbC_265_476, fbP_265_480, a, b, fbC_265_942]
theorem fw_faulty (sk : fl_sk k0 i0) (kx : k0 1048608 = (6, L)) (ix : i0 1048608 = xs) (hL : L < 10000) (c2 : c.1 ≤ 285) (I : fl_Inv k0 c h) (hs : fl_st k0 i0 h) (hi : i + 3 ≤ L) (ho : xs i &&& Int32.ofNat 31 = Int32.ofNat 11) : ∃ h', fl_Rn fl_C 265 23 [some (.ref 1048608), some (.ref 0), some (.ref 259), some (.ref 284), some (.int (Int32.ofNat i))] [] h = fl_Rn fl_C 265 23 [some (.ref 1048608), some (.ref 0), some (.ref 259), some (.ref 284), some (.int (Int32.ofNat (i + 3)))] [] h' ∧ fl_Inv k0 c h' ∧ fl_st k0 i0 h' := by
  obtain ⟨v, h1, h2, a, b, J⟩ := fo_faulty I (xs (i + 1)) (xs (i + 2))
  have s := fw_st I.1 hs a b (by rw [J.2.1]; exact c2)
  refine ⟨h2, ?_, J, s.2⟩
  have q5 : 5 ≤ (k0 1048608).1 := by rw [kx]; exact (show 5 ≤ 6 by decide)
  have s1 := s.1 1048608 (by omega) q5
  have K1 : fl_k h1 1048608 = (6, L) := s1.1.trans kx
  have X1 : fl_i h1 1048608 = xs := s1.2.trans ix
  have X0 : fl_i h 1048608 = xs := (hs 1048608 (by omega) q5).trans ix
  have K0 : fl_k h 1048608 = (6, L) := by rw [I.1.1]; unfold fl_KK; rw [if_neg (by omega)]; exact kx
  have k10 : fl_k h 0 = (1, 10) := by rw [I.1.1]; exact fl_KF
  have k11 : fl_k h1 259 = (1, 11) := by
    by_cases z : fl_k h1 259 = (1, 11)
    · exact z
    · exfalso
      rw [fbE_165] at b
      simp only [z, decide_false, Bool.false_and, Bool.false_eq_true, if_false, reduceCtorEq] at b
  clear I J s s1 hs sk q5 kx ix
  rw [fbC_265_23]
  simp (disch := omega) only [K0, K1, X0, X1, k10, k11, fl_lit, fl_nadd, fl_nmul, fl_ndiv, fl_nsub, fl_msub, fl_nle, fl_nlt, fl_neq, fl_nclamp, fl_nin, fl_ltT, fl_ltF, fl_leT, fl_leF, fl_eqT, fl_eqF, decide_true, decide_false, Bool.true_and, Bool.and_true, Bool.false_and, Bool.and_false, if_true, if_false, Bool.false_eq_true, Option.isSome_some, Option.getD_some, not_true_eq_false, not_false_eq_true, Option.toList_some, Option.toList_none, List.cons_append, List.nil_append, fbC_265_36, ho, fbC_265_491, fbC_265_492, fbC_265_497, fbP_265_501, fbC_265_507, fbC_265_508, fbC_265_513, fbP_265_517, a, b, fbC_265_942]
theorem fw_holds (sk : fl_sk k0 i0) (kx : k0 1048608 = (6, L)) (ix : i0 1048608 = xs) (hL : L < 10000) (c2 : c.1 ≤ 285) (I : fl_Inv k0 c h) (hs : fl_st k0 i0 h) (hi : i + 3 ≤ L) (ho : xs i &&& Int32.ofNat 31 = Int32.ofNat 12) : ∃ h', fl_Rn fl_C 265 23 [some (.ref 1048608), some (.ref 0), some (.ref 259), some (.ref 284), some (.int (Int32.ofNat i))] [] h = fl_Rn fl_C 265 23 [some (.ref 1048608), some (.ref 0), some (.ref 259), some (.ref 284), some (.int (Int32.ofNat (i + 3)))] [] h' ∧ fl_Inv k0 c h' ∧ fl_st k0 i0 h' := by
  obtain ⟨v, h1, h2, a, b, J⟩ := fo_holds I (xs (i + 1))
  have s := fw_st I.1 hs a b (by rw [J.2.1]; exact c2)
  refine ⟨h2, ?_, J, s.2⟩
  have q5 : 5 ≤ (k0 1048608).1 := by rw [kx]; exact (show 5 ≤ 6 by decide)
  have s1 := s.1 1048608 (by omega) q5
  have K1 : fl_k h1 1048608 = (6, L) := s1.1.trans kx
  have X1 : fl_i h1 1048608 = xs := s1.2.trans ix
  have X0 : fl_i h 1048608 = xs := (hs 1048608 (by omega) q5).trans ix
  have K0 : fl_k h 1048608 = (6, L) := by rw [I.1.1]; unfold fl_KK; rw [if_neg (by omega)]; exact kx
  have k10 : fl_k h 0 = (1, 10) := by rw [I.1.1]; exact fl_KF
  have k11 : fl_k h1 259 = (1, 11) := by
    by_cases z : fl_k h1 259 = (1, 11)
    · exact z
    · exfalso
      rw [fbE_169] at b
      simp only [z, decide_false, Bool.false_and, Bool.false_eq_true, if_false, reduceCtorEq] at b
  clear I J s s1 hs sk q5 kx ix
  rw [fbC_265_23]
  simp (disch := omega) only [K0, K1, X0, X1, k10, k11, fl_lit, fl_nadd, fl_nmul, fl_ndiv, fl_nsub, fl_msub, fl_nle, fl_nlt, fl_neq, fl_nclamp, fl_nin, fl_ltT, fl_ltF, fl_leT, fl_leF, fl_eqT, fl_eqF, decide_true, decide_false, Bool.true_and, Bool.and_true, Bool.false_and, Bool.and_false, if_true, if_false, Bool.false_eq_true, Option.isSome_some, Option.getD_some, not_true_eq_false, not_false_eq_true, Option.toList_some, Option.toList_none, List.cons_append, List.nil_append, fbC_265_36, ho, fbC_265_528, fbP_265_532, fbC_265_538, fbP_265_542, a, b, fbC_265_942]
theorem fw_detected (sk : fl_sk k0 i0) (kx : k0 1048608 = (6, L)) (ix : i0 1048608 = xs) (hL : L < 10000) (c2 : c.1 ≤ 285) (I : fl_Inv k0 c h) (hs : fl_st k0 i0 h) (hi : i + 3 ≤ L) (ho : xs i &&& Int32.ofNat 31 = Int32.ofNat 13) : ∃ h', fl_Rn fl_C 265 23 [some (.ref 1048608), some (.ref 0), some (.ref 259), some (.ref 284), some (.int (Int32.ofNat i))] [] h = fl_Rn fl_C 265 23 [some (.ref 1048608), some (.ref 0), some (.ref 259), some (.ref 284), some (.int (Int32.ofNat (i + 3)))] [] h' ∧ fl_Inv k0 c h' ∧ fl_st k0 i0 h' := by
  obtain ⟨v, h1, h2, a, b, J⟩ := fo_detected I 
  have s := fw_st I.1 hs a b (by rw [J.2.1]; exact c2)
  refine ⟨h2, ?_, J, s.2⟩
  have q5 : 5 ≤ (k0 1048608).1 := by rw [kx]; exact (show 5 ≤ 6 by decide)
  have s1 := s.1 1048608 (by omega) q5
  have K1 : fl_k h1 1048608 = (6, L) := s1.1.trans kx
  have X1 : fl_i h1 1048608 = xs := s1.2.trans ix
  have X0 : fl_i h 1048608 = xs := (hs 1048608 (by omega) q5).trans ix
  have K0 : fl_k h 1048608 = (6, L) := by rw [I.1.1]; unfold fl_KK; rw [if_neg (by omega)]; exact kx
  have k10 : fl_k h 0 = (1, 10) := by rw [I.1.1]; exact fl_KF
  have k11 : fl_k h1 259 = (1, 11) := by
    by_cases z : fl_k h1 259 = (1, 11)
    · exact z
    · exfalso
      rw [fbE_171] at b
      simp only [z, decide_false, Bool.false_and, Bool.false_eq_true, if_false, reduceCtorEq] at b
  clear I J s s1 hs sk q5 kx ix
  rw [fbC_265_23]
  simp (disch := omega) only [K0, K1, X0, X1, k10, k11, fl_lit, fl_nadd, fl_nmul, fl_ndiv, fl_nsub, fl_msub, fl_nle, fl_nlt, fl_neq, fl_nclamp, fl_nin, fl_ltT, fl_ltF, fl_leT, fl_leF, fl_eqT, fl_eqF, decide_true, decide_false, Bool.true_and, Bool.and_true, Bool.false_and, Bool.and_false, if_true, if_false, Bool.false_eq_true, Option.isSome_some, Option.getD_some, not_true_eq_false, not_false_eq_true, Option.toList_some, Option.toList_none, List.cons_append, List.nil_append, fbC_265_36, ho, fbP_265_551, fbP_265_555, a, b, fbC_265_942]
theorem fw_when (sk : fl_sk k0 i0) (kx : k0 1048608 = (6, L)) (ix : i0 1048608 = xs) (hL : L < 10000) (c2 : c.1 ≤ 285) (I : fl_Inv k0 c h) (hs : fl_st k0 i0 h) (hi : i + 3 ≤ L) (ho : xs i &&& Int32.ofNat 31 = Int32.ofNat 14) : ∃ h', fl_Rn fl_C 265 23 [some (.ref 1048608), some (.ref 0), some (.ref 259), some (.ref 284), some (.int (Int32.ofNat i))] [] h = fl_Rn fl_C 265 23 [some (.ref 1048608), some (.ref 0), some (.ref 259), some (.ref 284), some (.int (Int32.ofNat (i + 3)))] [] h' ∧ fl_Inv k0 c h' ∧ fl_st k0 i0 h' := by
  obtain ⟨v, h1, h2, a, b, J⟩ := fo_when I (xs (i + 1))
  have s := fw_st I.1 hs a b (by rw [J.2.1]; exact c2)
  refine ⟨h2, ?_, J, s.2⟩
  have q5 : 5 ≤ (k0 1048608).1 := by rw [kx]; exact (show 5 ≤ 6 by decide)
  have s1 := s.1 1048608 (by omega) q5
  have K1 : fl_k h1 1048608 = (6, L) := s1.1.trans kx
  have X1 : fl_i h1 1048608 = xs := s1.2.trans ix
  have X0 : fl_i h 1048608 = xs := (hs 1048608 (by omega) q5).trans ix
  have K0 : fl_k h 1048608 = (6, L) := by rw [I.1.1]; unfold fl_KK; rw [if_neg (by omega)]; exact kx
  have k10 : fl_k h 0 = (1, 10) := by rw [I.1.1]; exact fl_KF
  have k11 : fl_k h1 259 = (1, 11) := by
    by_cases z : fl_k h1 259 = (1, 11)
    · exact z
    · exfalso
      rw [fbE_173] at b
      simp only [z, decide_false, Bool.false_and, Bool.false_eq_true, if_false, reduceCtorEq] at b
  clear I J s s1 hs sk q5 kx ix
  rw [fbC_265_23]
  simp (disch := omega) only [K0, K1, X0, X1, k10, k11, fl_lit, fl_nadd, fl_nmul, fl_ndiv, fl_nsub, fl_msub, fl_nle, fl_nlt, fl_neq, fl_nclamp, fl_nin, fl_ltT, fl_ltF, fl_leT, fl_leF, fl_eqT, fl_eqF, decide_true, decide_false, Bool.true_and, Bool.and_true, Bool.false_and, Bool.and_false, if_true, if_false, Bool.false_eq_true, Option.isSome_some, Option.getD_some, not_true_eq_false, not_false_eq_true, Option.toList_some, Option.toList_none, List.cons_append, List.nil_append, fbC_265_36, ho, fbC_265_566, fbP_265_570, fbC_265_576, fbP_265_580, a, b, fbC_265_942]
theorem fw_sample (sk : fl_sk k0 i0) (kx : k0 1048608 = (6, L)) (ix : i0 1048608 = xs) (hL : L < 10000) (c2 : c.1 ≤ 285) (I : fl_Inv k0 c h) (hs : fl_st k0 i0 h) (hi : i + 3 ≤ L) (ho : xs i &&& Int32.ofNat 31 = Int32.ofNat 15) : ∃ h', fl_Rn fl_C 265 23 [some (.ref 1048608), some (.ref 0), some (.ref 259), some (.ref 284), some (.int (Int32.ofNat i))] [] h = fl_Rn fl_C 265 23 [some (.ref 1048608), some (.ref 0), some (.ref 259), some (.ref 284), some (.int (Int32.ofNat (i + 3)))] [] h' ∧ fl_Inv k0 c h' ∧ fl_st k0 i0 h' := by
  obtain ⟨v, h1, h2, a, b, J⟩ := fo_sample I (xs (i + 1)) (xs (i + 2))
  have s := fw_st I.1 hs a b (by rw [J.2.1]; exact c2)
  refine ⟨h2, ?_, J, s.2⟩
  have q5 : 5 ≤ (k0 1048608).1 := by rw [kx]; exact (show 5 ≤ 6 by decide)
  have s1 := s.1 1048608 (by omega) q5
  have K1 : fl_k h1 1048608 = (6, L) := s1.1.trans kx
  have X1 : fl_i h1 1048608 = xs := s1.2.trans ix
  have X0 : fl_i h 1048608 = xs := (hs 1048608 (by omega) q5).trans ix
  have K0 : fl_k h 1048608 = (6, L) := by rw [I.1.1]; unfold fl_KK; rw [if_neg (by omega)]; exact kx
  have k10 : fl_k h 0 = (1, 10) := by rw [I.1.1]; exact fl_KF
  have k11 : fl_k h1 259 = (1, 11) := by
    by_cases z : fl_k h1 259 = (1, 11)
    · exact z
    · exfalso
      rw [fbE_188] at b
      simp only [z, decide_false, Bool.false_and, Bool.false_eq_true, if_false, reduceCtorEq] at b
  clear I J s s1 hs sk q5 kx ix
  rw [fbC_265_23]
  simp (disch := omega) only [K0, K1, X0, X1, k10, k11, fl_lit, fl_nadd, fl_nmul, fl_ndiv, fl_nsub, fl_msub, fl_nle, fl_nlt, fl_neq, fl_nclamp, fl_nin, fl_ltT, fl_ltF, fl_leT, fl_leF, fl_eqT, fl_eqF, decide_true, decide_false, Bool.true_and, Bool.and_true, Bool.false_and, Bool.and_false, if_true, if_false, Bool.false_eq_true, Option.isSome_some, Option.getD_some, not_true_eq_false, not_false_eq_true, Option.toList_some, Option.toList_none, List.cons_append, List.nil_append, fbC_265_36, ho, fbC_265_591, fbC_265_592, fbC_265_597, fbP_265_601, fbC_265_607, fbC_265_608, fbC_265_613, fbP_265_617, a, b, fbC_265_942]
theorem fw_critical (sk : fl_sk k0 i0) (kx : k0 1048608 = (6, L)) (ix : i0 1048608 = xs) (hL : L < 10000) (c2 : c.1 ≤ 285) (I : fl_Inv k0 c h) (hs : fl_st k0 i0 h) (hi : i + 3 ≤ L) (ho : xs i &&& Int32.ofNat 31 = Int32.ofNat 16) : ∃ h', fl_Rn fl_C 265 23 [some (.ref 1048608), some (.ref 0), some (.ref 259), some (.ref 284), some (.int (Int32.ofNat i))] [] h = fl_Rn fl_C 265 23 [some (.ref 1048608), some (.ref 0), some (.ref 259), some (.ref 284), some (.int (Int32.ofNat (i + 3)))] [] h' ∧ fl_Inv k0 c h' ∧ fl_st k0 i0 h' := by
  obtain ⟨v, h1, h2, a, b, J⟩ := fo_critical I (xs (i + 1))
  have s := fw_st I.1 hs a b (by rw [J.2.1]; exact c2)
  refine ⟨h2, ?_, J, s.2⟩
  have q5 : 5 ≤ (k0 1048608).1 := by rw [kx]; exact (show 5 ≤ 6 by decide)
  have s1 := s.1 1048608 (by omega) q5
  have K1 : fl_k h1 1048608 = (6, L) := s1.1.trans kx
  have X1 : fl_i h1 1048608 = xs := s1.2.trans ix
  have X0 : fl_i h 1048608 = xs := (hs 1048608 (by omega) q5).trans ix
  have K0 : fl_k h 1048608 = (6, L) := by rw [I.1.1]; unfold fl_KK; rw [if_neg (by omega)]; exact kx
  have k10 : fl_k h 0 = (1, 10) := by rw [I.1.1]; exact fl_KF
  have k11 : fl_k h1 259 = (1, 11) := by
    by_cases z : fl_k h1 259 = (1, 11)
    · exact z
    · exfalso
      rw [fbE_193] at b
      simp only [z, decide_false, Bool.false_and, Bool.false_eq_true, if_false, reduceCtorEq] at b
  clear I J s s1 hs sk q5 kx ix
  rw [fbC_265_23]
  simp (disch := omega) only [K0, K1, X0, X1, k10, k11, fl_lit, fl_nadd, fl_nmul, fl_ndiv, fl_nsub, fl_msub, fl_nle, fl_nlt, fl_neq, fl_nclamp, fl_nin, fl_ltT, fl_ltF, fl_leT, fl_leF, fl_eqT, fl_eqF, decide_true, decide_false, Bool.true_and, Bool.and_true, Bool.false_and, Bool.and_false, if_true, if_false, Bool.false_eq_true, Option.isSome_some, Option.getD_some, not_true_eq_false, not_false_eq_true, Option.toList_some, Option.toList_none, List.cons_append, List.nil_append, fbC_265_36, ho, fbC_265_628, fbP_265_632, fbC_265_638, fbP_265_642, a, b, fbC_265_942]
theorem fw_classes (sk : fl_sk k0 i0) (kx : k0 1048608 = (6, L)) (ix : i0 1048608 = xs) (hL : L < 10000) (c2 : c.1 ≤ 285) (I : fl_Inv k0 c h) (hs : fl_st k0 i0 h) (hi : i + 3 ≤ L) (ho : xs i &&& Int32.ofNat 31 = Int32.ofNat 17) : ∃ h', fl_Rn fl_C 265 23 [some (.ref 1048608), some (.ref 0), some (.ref 259), some (.ref 284), some (.int (Int32.ofNat i))] [] h = fl_Rn fl_C 265 23 [some (.ref 1048608), some (.ref 0), some (.ref 259), some (.ref 284), some (.int (Int32.ofNat (i + 3)))] [] h' ∧ fl_Inv k0 c h' ∧ fl_st k0 i0 h' := by
  obtain ⟨v, h1, h2, a, b, J⟩ := fo_classes I 
  have s := fw_st I.1 hs a b (by rw [J.2.1]; exact c2)
  refine ⟨h2, ?_, J, s.2⟩
  have q5 : 5 ≤ (k0 1048608).1 := by rw [kx]; exact (show 5 ≤ 6 by decide)
  have s1 := s.1 1048608 (by omega) q5
  have K1 : fl_k h1 1048608 = (6, L) := s1.1.trans kx
  have X1 : fl_i h1 1048608 = xs := s1.2.trans ix
  have X0 : fl_i h 1048608 = xs := (hs 1048608 (by omega) q5).trans ix
  have K0 : fl_k h 1048608 = (6, L) := by rw [I.1.1]; unfold fl_KK; rw [if_neg (by omega)]; exact kx
  have k10 : fl_k h 0 = (1, 10) := by rw [I.1.1]; exact fl_KF
  have k11 : fl_k h1 259 = (1, 11) := by
    by_cases z : fl_k h1 259 = (1, 11)
    · exact z
    · exfalso
      rw [fbE_202] at b
      simp only [z, decide_false, Bool.false_and, Bool.false_eq_true, if_false, reduceCtorEq] at b
  clear I J s s1 hs sk q5 kx ix
  rw [fbC_265_23]
  simp (disch := omega) only [K0, K1, X0, X1, k10, k11, fl_lit, fl_nadd, fl_nmul, fl_ndiv, fl_nsub, fl_msub, fl_nle, fl_nlt, fl_neq, fl_nclamp, fl_nin, fl_ltT, fl_ltF, fl_leT, fl_leF, fl_eqT, fl_eqF, decide_true, decide_false, Bool.true_and, Bool.and_true, Bool.false_and, Bool.and_false, if_true, if_false, Bool.false_eq_true, Option.isSome_some, Option.getD_some, not_true_eq_false, not_false_eq_true, Option.toList_some, Option.toList_none, List.cons_append, List.nil_append, fbC_265_36, ho, fbP_265_651, fbP_265_655, a, b, fbC_265_942]
theorem fw_classOf (sk : fl_sk k0 i0) (kx : k0 1048608 = (6, L)) (ix : i0 1048608 = xs) (hL : L < 10000) (c2 : c.1 ≤ 285) (I : fl_Inv k0 c h) (hs : fl_st k0 i0 h) (hi : i + 3 ≤ L) (ho : xs i &&& Int32.ofNat 31 = Int32.ofNat 18) : ∃ h', fl_Rn fl_C 265 23 [some (.ref 1048608), some (.ref 0), some (.ref 259), some (.ref 284), some (.int (Int32.ofNat i))] [] h = fl_Rn fl_C 265 23 [some (.ref 1048608), some (.ref 0), some (.ref 259), some (.ref 284), some (.int (Int32.ofNat (i + 3)))] [] h' ∧ fl_Inv k0 c h' ∧ fl_st k0 i0 h' := by
  obtain ⟨v, h1, h2, a, b, J⟩ := fo_classOf I (xs (i + 1))
  have s := fw_st I.1 hs a b (by rw [J.2.1]; exact c2)
  refine ⟨h2, ?_, J, s.2⟩
  have q5 : 5 ≤ (k0 1048608).1 := by rw [kx]; exact (show 5 ≤ 6 by decide)
  have s1 := s.1 1048608 (by omega) q5
  have K1 : fl_k h1 1048608 = (6, L) := s1.1.trans kx
  have X1 : fl_i h1 1048608 = xs := s1.2.trans ix
  have X0 : fl_i h 1048608 = xs := (hs 1048608 (by omega) q5).trans ix
  have K0 : fl_k h 1048608 = (6, L) := by rw [I.1.1]; unfold fl_KK; rw [if_neg (by omega)]; exact kx
  have k10 : fl_k h 0 = (1, 10) := by rw [I.1.1]; exact fl_KF
  have k11 : fl_k h1 259 = (1, 11) := by
    by_cases z : fl_k h1 259 = (1, 11)
    · exact z
    · exfalso
      rw [fbE_204] at b
      simp only [z, decide_false, Bool.false_and, Bool.false_eq_true, if_false, reduceCtorEq] at b
  clear I J s s1 hs sk q5 kx ix
  rw [fbC_265_23]
  simp (disch := omega) only [K0, K1, X0, X1, k10, k11, fl_lit, fl_nadd, fl_nmul, fl_ndiv, fl_nsub, fl_msub, fl_nle, fl_nlt, fl_neq, fl_nclamp, fl_nin, fl_ltT, fl_ltF, fl_leT, fl_leF, fl_eqT, fl_eqF, decide_true, decide_false, Bool.true_and, Bool.and_true, Bool.false_and, Bool.and_false, if_true, if_false, Bool.false_eq_true, Option.isSome_some, Option.getD_some, not_true_eq_false, not_false_eq_true, Option.toList_some, Option.toList_none, List.cons_append, List.nil_append, fbC_265_36, ho, fbC_265_666, fbP_265_670, fbC_265_676, fbP_265_680, a, b, fbC_265_942]
theorem fw_tests (sk : fl_sk k0 i0) (kx : k0 1048608 = (6, L)) (ix : i0 1048608 = xs) (hL : L < 10000) (c2 : c.1 ≤ 285) (I : fl_Inv k0 c h) (hs : fl_st k0 i0 h) (hi : i + 3 ≤ L) (ho : xs i &&& Int32.ofNat 31 = Int32.ofNat 19) : ∃ h', fl_Rn fl_C 265 23 [some (.ref 1048608), some (.ref 0), some (.ref 259), some (.ref 284), some (.int (Int32.ofNat i))] [] h = fl_Rn fl_C 265 23 [some (.ref 1048608), some (.ref 0), some (.ref 259), some (.ref 284), some (.int (Int32.ofNat (i + 3)))] [] h' ∧ fl_Inv k0 c h' ∧ fl_st k0 i0 h' := by
  obtain ⟨v, h1, h2, a, b, J⟩ := fo_tests I (xs (i + 1))
  have s := fw_st I.1 hs a b (by rw [J.2.1]; exact c2)
  refine ⟨h2, ?_, J, s.2⟩
  have q5 : 5 ≤ (k0 1048608).1 := by rw [kx]; exact (show 5 ≤ 6 by decide)
  have s1 := s.1 1048608 (by omega) q5
  have K1 : fl_k h1 1048608 = (6, L) := s1.1.trans kx
  have X1 : fl_i h1 1048608 = xs := s1.2.trans ix
  have X0 : fl_i h 1048608 = xs := (hs 1048608 (by omega) q5).trans ix
  have K0 : fl_k h 1048608 = (6, L) := by rw [I.1.1]; unfold fl_KK; rw [if_neg (by omega)]; exact kx
  have k10 : fl_k h 0 = (1, 10) := by rw [I.1.1]; exact fl_KF
  have k11 : fl_k h1 259 = (1, 11) := by
    by_cases z : fl_k h1 259 = (1, 11)
    · exact z
    · exfalso
      rw [fbE_226] at b
      simp only [z, decide_false, Bool.false_and, Bool.false_eq_true, if_false, reduceCtorEq] at b
  clear I J s s1 hs sk q5 kx ix
  rw [fbC_265_23]
  simp (disch := omega) only [K0, K1, X0, X1, k10, k11, fl_lit, fl_nadd, fl_nmul, fl_ndiv, fl_nsub, fl_msub, fl_nle, fl_nlt, fl_neq, fl_nclamp, fl_nin, fl_ltT, fl_ltF, fl_leT, fl_leF, fl_eqT, fl_eqF, decide_true, decide_false, Bool.true_and, Bool.and_true, Bool.false_and, Bool.and_false, if_true, if_false, Bool.false_eq_true, Option.isSome_some, Option.getD_some, not_true_eq_false, not_false_eq_true, Option.toList_some, Option.toList_none, List.cons_append, List.nil_append, fbC_265_36, ho, fbC_265_691, fbP_265_695, fbC_265_701, fbP_265_705, a, b, fbC_265_942]
theorem fw_hidden (sk : fl_sk k0 i0) (kx : k0 1048608 = (6, L)) (ix : i0 1048608 = xs) (hL : L < 10000) (c2 : c.1 ≤ 285) (I : fl_Inv k0 c h) (hs : fl_st k0 i0 h) (hi : i + 3 ≤ L) (ho : xs i &&& Int32.ofNat 31 = Int32.ofNat 20) : ∃ h', fl_Rn fl_C 265 23 [some (.ref 1048608), some (.ref 0), some (.ref 259), some (.ref 284), some (.int (Int32.ofNat i))] [] h = fl_Rn fl_C 265 23 [some (.ref 1048608), some (.ref 0), some (.ref 259), some (.ref 284), some (.int (Int32.ofNat (i + 3)))] [] h' ∧ fl_Inv k0 c h' ∧ fl_st k0 i0 h' := by
  obtain ⟨v, h1, h2, a, b, J⟩ := fo_hidden I 
  have s := fw_st I.1 hs a b (by rw [J.2.1]; exact c2)
  refine ⟨h2, ?_, J, s.2⟩
  have q5 : 5 ≤ (k0 1048608).1 := by rw [kx]; exact (show 5 ≤ 6 by decide)
  have s1 := s.1 1048608 (by omega) q5
  have K1 : fl_k h1 1048608 = (6, L) := s1.1.trans kx
  have X1 : fl_i h1 1048608 = xs := s1.2.trans ix
  have X0 : fl_i h 1048608 = xs := (hs 1048608 (by omega) q5).trans ix
  have K0 : fl_k h 1048608 = (6, L) := by rw [I.1.1]; unfold fl_KK; rw [if_neg (by omega)]; exact kx
  have k10 : fl_k h 0 = (1, 10) := by rw [I.1.1]; exact fl_KF
  have k11 : fl_k h1 259 = (1, 11) := by
    by_cases z : fl_k h1 259 = (1, 11)
    · exact z
    · exfalso
      rw [fbE_228] at b
      simp only [z, decide_false, Bool.false_and, Bool.false_eq_true, if_false, reduceCtorEq] at b
  clear I J s s1 hs sk q5 kx ix
  rw [fbC_265_23]
  simp (disch := omega) only [K0, K1, X0, X1, k10, k11, fl_lit, fl_nadd, fl_nmul, fl_ndiv, fl_nsub, fl_msub, fl_nle, fl_nlt, fl_neq, fl_nclamp, fl_nin, fl_ltT, fl_ltF, fl_leT, fl_leF, fl_eqT, fl_eqF, decide_true, decide_false, Bool.true_and, Bool.and_true, Bool.false_and, Bool.and_false, if_true, if_false, Bool.false_eq_true, Option.isSome_some, Option.getD_some, not_true_eq_false, not_false_eq_true, Option.toList_some, Option.toList_none, List.cons_append, List.nil_append, fbC_265_36, ho, fbP_265_714, fbP_265_718, a, b, fbC_265_942]
theorem fw_needless (sk : fl_sk k0 i0) (kx : k0 1048608 = (6, L)) (ix : i0 1048608 = xs) (hL : L < 10000) (c2 : c.1 ≤ 285) (I : fl_Inv k0 c h) (hs : fl_st k0 i0 h) (hi : i + 3 ≤ L) (ho : xs i &&& Int32.ofNat 31 = Int32.ofNat 21) : ∃ h', fl_Rn fl_C 265 23 [some (.ref 1048608), some (.ref 0), some (.ref 259), some (.ref 284), some (.int (Int32.ofNat i))] [] h = fl_Rn fl_C 265 23 [some (.ref 1048608), some (.ref 0), some (.ref 259), some (.ref 284), some (.int (Int32.ofNat (i + 3)))] [] h' ∧ fl_Inv k0 c h' ∧ fl_st k0 i0 h' := by
  obtain ⟨v, h1, h2, a, b, J⟩ := fo_needless I 
  have s := fw_st I.1 hs a b (by rw [J.2.1]; exact c2)
  refine ⟨h2, ?_, J, s.2⟩
  have q5 : 5 ≤ (k0 1048608).1 := by rw [kx]; exact (show 5 ≤ 6 by decide)
  have s1 := s.1 1048608 (by omega) q5
  have K1 : fl_k h1 1048608 = (6, L) := s1.1.trans kx
  have X1 : fl_i h1 1048608 = xs := s1.2.trans ix
  have X0 : fl_i h 1048608 = xs := (hs 1048608 (by omega) q5).trans ix
  have K0 : fl_k h 1048608 = (6, L) := by rw [I.1.1]; unfold fl_KK; rw [if_neg (by omega)]; exact kx
  have k10 : fl_k h 0 = (1, 10) := by rw [I.1.1]; exact fl_KF
  have k11 : fl_k h1 259 = (1, 11) := by
    by_cases z : fl_k h1 259 = (1, 11)
    · exact z
    · exfalso
      rw [fbE_235] at b
      simp only [z, decide_false, Bool.false_and, Bool.false_eq_true, if_false, reduceCtorEq] at b
  clear I J s s1 hs sk q5 kx ix
  rw [fbC_265_23]
  simp (disch := omega) only [K0, K1, X0, X1, k10, k11, fl_lit, fl_nadd, fl_nmul, fl_ndiv, fl_nsub, fl_msub, fl_nle, fl_nlt, fl_neq, fl_nclamp, fl_nin, fl_ltT, fl_ltF, fl_leT, fl_leF, fl_eqT, fl_eqF, decide_true, decide_false, Bool.true_and, Bool.and_true, Bool.false_and, Bool.and_false, if_true, if_false, Bool.false_eq_true, Option.isSome_some, Option.getD_some, not_true_eq_false, not_false_eq_true, Option.toList_some, Option.toList_none, List.cons_append, List.nil_append, fbC_265_36, ho, fbP_265_727, fbP_265_731, a, b, fbC_265_942]
theorem fw_shorter (sk : fl_sk k0 i0) (kx : k0 1048608 = (6, L)) (ix : i0 1048608 = xs) (hL : L < 10000) (c2 : c.1 ≤ 285) (I : fl_Inv k0 c h) (hs : fl_st k0 i0 h) (hi : i + 3 ≤ L) (ho : xs i &&& Int32.ofNat 31 = Int32.ofNat 22) : ∃ h', fl_Rn fl_C 265 23 [some (.ref 1048608), some (.ref 0), some (.ref 259), some (.ref 284), some (.int (Int32.ofNat i))] [] h = fl_Rn fl_C 265 23 [some (.ref 1048608), some (.ref 0), some (.ref 259), some (.ref 284), some (.int (Int32.ofNat (i + 3)))] [] h' ∧ fl_Inv k0 c h' ∧ fl_st k0 i0 h' := by
  obtain ⟨v, h1, h2, a, b, J⟩ := fo_shorter I 
  have s := fw_st I.1 hs a b (by rw [J.2.1]; exact c2)
  refine ⟨h2, ?_, J, s.2⟩
  have q5 : 5 ≤ (k0 1048608).1 := by rw [kx]; exact (show 5 ≤ 6 by decide)
  have s1 := s.1 1048608 (by omega) q5
  have K1 : fl_k h1 1048608 = (6, L) := s1.1.trans kx
  have X1 : fl_i h1 1048608 = xs := s1.2.trans ix
  have X0 : fl_i h 1048608 = xs := (hs 1048608 (by omega) q5).trans ix
  have K0 : fl_k h 1048608 = (6, L) := by rw [I.1.1]; unfold fl_KK; rw [if_neg (by omega)]; exact kx
  have k10 : fl_k h 0 = (1, 10) := by rw [I.1.1]; exact fl_KF
  have k11 : fl_k h1 259 = (1, 11) := by
    by_cases z : fl_k h1 259 = (1, 11)
    · exact z
    · exfalso
      rw [fbE_237] at b
      simp only [z, decide_false, Bool.false_and, Bool.false_eq_true, if_false, reduceCtorEq] at b
  clear I J s s1 hs sk q5 kx ix
  rw [fbC_265_23]
  simp (disch := omega) only [K0, K1, X0, X1, k10, k11, fl_lit, fl_nadd, fl_nmul, fl_ndiv, fl_nsub, fl_msub, fl_nle, fl_nlt, fl_neq, fl_nclamp, fl_nin, fl_ltT, fl_ltF, fl_leT, fl_leF, fl_eqT, fl_eqF, decide_true, decide_false, Bool.true_and, Bool.and_true, Bool.false_and, Bool.and_false, if_true, if_false, Bool.false_eq_true, Option.isSome_some, Option.getD_some, not_true_eq_false, not_false_eq_true, Option.toList_some, Option.toList_none, List.cons_append, List.nil_append, fbC_265_36, ho, fbP_265_740, fbP_265_744, a, b, fbC_265_942]
theorem fw_blames (sk : fl_sk k0 i0) (kx : k0 1048608 = (6, L)) (ix : i0 1048608 = xs) (hL : L < 10000) (c2 : c.1 ≤ 285) (I : fl_Inv k0 c h) (hs : fl_st k0 i0 h) (hi : i + 3 ≤ L) (ho : xs i &&& Int32.ofNat 31 = Int32.ofNat 23) : ∃ h', fl_Rn fl_C 265 23 [some (.ref 1048608), some (.ref 0), some (.ref 259), some (.ref 284), some (.int (Int32.ofNat i))] [] h = fl_Rn fl_C 265 23 [some (.ref 1048608), some (.ref 0), some (.ref 259), some (.ref 284), some (.int (Int32.ofNat (i + 3)))] [] h' ∧ fl_Inv k0 c h' ∧ fl_st k0 i0 h' := by
  obtain ⟨v, h1, h2, a, b, J⟩ := fo_blames sk hs I 
  have s := fw_st I.1 hs a b (by rw [J.2.1]; exact c2)
  refine ⟨h2, ?_, J, s.2⟩
  have q5 : 5 ≤ (k0 1048608).1 := by rw [kx]; exact (show 5 ≤ 6 by decide)
  have s1 := s.1 1048608 (by omega) q5
  have K1 : fl_k h1 1048608 = (6, L) := s1.1.trans kx
  have X1 : fl_i h1 1048608 = xs := s1.2.trans ix
  have X0 : fl_i h 1048608 = xs := (hs 1048608 (by omega) q5).trans ix
  have K0 : fl_k h 1048608 = (6, L) := by rw [I.1.1]; unfold fl_KK; rw [if_neg (by omega)]; exact kx
  have k10 : fl_k h 0 = (1, 10) := by rw [I.1.1]; exact fl_KF
  have k11 : fl_k h1 259 = (1, 11) := by
    by_cases z : fl_k h1 259 = (1, 11)
    · exact z
    · exfalso
      rw [fbE_242] at b
      simp only [z, decide_false, Bool.false_and, Bool.false_eq_true, if_false, reduceCtorEq] at b
  clear I J s s1 hs sk q5 kx ix
  rw [fbC_265_23]
  simp (disch := omega) only [K0, K1, X0, X1, k10, k11, fl_lit, fl_nadd, fl_nmul, fl_ndiv, fl_nsub, fl_msub, fl_nle, fl_nlt, fl_neq, fl_nclamp, fl_nin, fl_ltT, fl_ltF, fl_leT, fl_leF, fl_eqT, fl_eqF, decide_true, decide_false, Bool.true_and, Bool.and_true, Bool.false_and, Bool.and_false, if_true, if_false, Bool.false_eq_true, Option.isSome_some, Option.getD_some, not_true_eq_false, not_false_eq_true, Option.toList_some, Option.toList_none, List.cons_append, List.nil_append, fbC_265_36, ho, fbP_265_753, fbP_265_757, a, b, fbC_265_942]
theorem fw_parts (sk : fl_sk k0 i0) (kx : k0 1048608 = (6, L)) (ix : i0 1048608 = xs) (hL : L < 10000) (c2 : c.1 ≤ 285) (I : fl_Inv k0 c h) (hs : fl_st k0 i0 h) (hi : i + 3 ≤ L) (ho : xs i &&& Int32.ofNat 31 = Int32.ofNat 24) : ∃ h', fl_Rn fl_C 265 23 [some (.ref 1048608), some (.ref 0), some (.ref 259), some (.ref 284), some (.int (Int32.ofNat i))] [] h = fl_Rn fl_C 265 23 [some (.ref 1048608), some (.ref 0), some (.ref 259), some (.ref 284), some (.int (Int32.ofNat (i + 3)))] [] h' ∧ fl_Inv k0 c h' ∧ fl_st k0 i0 h' := by
  obtain ⟨v, h1, h2, a, b, J⟩ := fo_parts I 
  have s := fw_st I.1 hs a b (by rw [J.2.1]; exact c2)
  refine ⟨h2, ?_, J, s.2⟩
  have q5 : 5 ≤ (k0 1048608).1 := by rw [kx]; exact (show 5 ≤ 6 by decide)
  have s1 := s.1 1048608 (by omega) q5
  have K1 : fl_k h1 1048608 = (6, L) := s1.1.trans kx
  have X1 : fl_i h1 1048608 = xs := s1.2.trans ix
  have X0 : fl_i h 1048608 = xs := (hs 1048608 (by omega) q5).trans ix
  have K0 : fl_k h 1048608 = (6, L) := by rw [I.1.1]; unfold fl_KK; rw [if_neg (by omega)]; exact kx
  have k10 : fl_k h 0 = (1, 10) := by rw [I.1.1]; exact fl_KF
  have k11 : fl_k h1 259 = (1, 11) := by
    by_cases z : fl_k h1 259 = (1, 11)
    · exact z
    · exfalso
      rw [fbE_248] at b
      simp only [z, decide_false, Bool.false_and, Bool.false_eq_true, if_false, reduceCtorEq] at b
  clear I J s s1 hs sk q5 kx ix
  rw [fbC_265_23]
  simp (disch := omega) only [K0, K1, X0, X1, k10, k11, fl_lit, fl_nadd, fl_nmul, fl_ndiv, fl_nsub, fl_msub, fl_nle, fl_nlt, fl_neq, fl_nclamp, fl_nin, fl_ltT, fl_ltF, fl_leT, fl_leF, fl_eqT, fl_eqF, decide_true, decide_false, Bool.true_and, Bool.and_true, Bool.false_and, Bool.and_false, if_true, if_false, Bool.false_eq_true, Option.isSome_some, Option.getD_some, not_true_eq_false, not_false_eq_true, Option.toList_some, Option.toList_none, List.cons_append, List.nil_append, fbC_265_36, ho, fbP_265_766, fbP_265_770, a, b, fbC_265_942]
theorem fw_drawn (sk : fl_sk k0 i0) (kx : k0 1048608 = (6, L)) (ix : i0 1048608 = xs) (hL : L < 10000) (c2 : c.1 ≤ 285) (I : fl_Inv k0 c h) (hs : fl_st k0 i0 h) (hi : i + 3 ≤ L) (ho : xs i &&& Int32.ofNat 31 = Int32.ofNat 25) : ∃ h', fl_Rn fl_C 265 23 [some (.ref 1048608), some (.ref 0), some (.ref 259), some (.ref 284), some (.int (Int32.ofNat i))] [] h = fl_Rn fl_C 265 23 [some (.ref 1048608), some (.ref 0), some (.ref 259), some (.ref 284), some (.int (Int32.ofNat (i + 3)))] [] h' ∧ fl_Inv k0 c h' ∧ fl_st k0 i0 h' := by
  obtain ⟨v, h1, h2, a, b, J⟩ := fo_drawn I (xs (i + 1)) (xs (i + 2))
  have s := fw_st I.1 hs a b (by rw [J.2.1]; exact c2)
  refine ⟨h2, ?_, J, s.2⟩
  have q5 : 5 ≤ (k0 1048608).1 := by rw [kx]; exact (show 5 ≤ 6 by decide)
  have s1 := s.1 1048608 (by omega) q5
  have K1 : fl_k h1 1048608 = (6, L) := s1.1.trans kx
  have X1 : fl_i h1 1048608 = xs := s1.2.trans ix
  have X0 : fl_i h 1048608 = xs := (hs 1048608 (by omega) q5).trans ix
  have K0 : fl_k h 1048608 = (6, L) := by rw [I.1.1]; unfold fl_KK; rw [if_neg (by omega)]; exact kx
  have k10 : fl_k h 0 = (1, 10) := by rw [I.1.1]; exact fl_KF
  have k11 : fl_k h1 259 = (1, 11) := by
    by_cases z : fl_k h1 259 = (1, 11)
    · exact z
    · exfalso
      rw [fbE_251] at b
      simp only [z, decide_false, Bool.false_and, Bool.false_eq_true, if_false, reduceCtorEq] at b
  clear I J s s1 hs sk q5 kx ix
  rw [fbC_265_23]
  simp (disch := omega) only [K0, K1, X0, X1, k10, k11, fl_lit, fl_nadd, fl_nmul, fl_ndiv, fl_nsub, fl_msub, fl_nle, fl_nlt, fl_neq, fl_nclamp, fl_nin, fl_ltT, fl_ltF, fl_leT, fl_leF, fl_eqT, fl_eqF, decide_true, decide_false, Bool.true_and, Bool.and_true, Bool.false_and, Bool.and_false, if_true, if_false, Bool.false_eq_true, Option.isSome_some, Option.getD_some, not_true_eq_false, not_false_eq_true, Option.toList_some, Option.toList_none, List.cons_append, List.nil_append, fbC_265_36, ho, fbC_265_781, fbC_265_782, fbC_265_787, fbP_265_791, fbC_265_797, fbC_265_798, fbC_265_803, fbP_265_807, a, b, fbC_265_942]
theorem fw_keep (sk : fl_sk k0 i0) (kx : k0 1048608 = (6, L)) (ix : i0 1048608 = xs) (hL : L < 10000) (c2 : c.1 ≤ 285) (I : fl_Inv k0 c h) (hs : fl_st k0 i0 h) (hi : i + 3 ≤ L) (ho : xs i &&& Int32.ofNat 31 = Int32.ofNat 26) : ∃ h', fl_Rn fl_C 265 23 [some (.ref 1048608), some (.ref 0), some (.ref 259), some (.ref 284), some (.int (Int32.ofNat i))] [] h = fl_Rn fl_C 265 23 [some (.ref 1048608), some (.ref 0), some (.ref 259), some (.ref 284), some (.int (Int32.ofNat (i + 3)))] [] h' ∧ fl_Inv k0 c h' ∧ fl_st k0 i0 h' := by
  obtain ⟨v, h1, h2, a, b, J⟩ := fo_keep I (xs (i + 1))
  have s := fw_st I.1 hs a b (by rw [J.2.1]; exact c2)
  refine ⟨h2, ?_, J, s.2⟩
  have q5 : 5 ≤ (k0 1048608).1 := by rw [kx]; exact (show 5 ≤ 6 by decide)
  have s1 := s.1 1048608 (by omega) q5
  have K1 : fl_k h1 1048608 = (6, L) := s1.1.trans kx
  have X1 : fl_i h1 1048608 = xs := s1.2.trans ix
  have X0 : fl_i h 1048608 = xs := (hs 1048608 (by omega) q5).trans ix
  have K0 : fl_k h 1048608 = (6, L) := by rw [I.1.1]; unfold fl_KK; rw [if_neg (by omega)]; exact kx
  have k10 : fl_k h 0 = (1, 10) := by rw [I.1.1]; exact fl_KF
  have k11 : fl_k h1 259 = (1, 11) := by
    by_cases z : fl_k h1 259 = (1, 11)
    · exact z
    · exfalso
      rw [fbE_253] at b
      simp only [z, decide_false, Bool.false_and, Bool.false_eq_true, if_false, reduceCtorEq] at b
  clear I J s s1 hs sk q5 kx ix
  rw [fbC_265_23]
  simp (disch := omega) only [K0, K1, X0, X1, k10, k11, fl_lit, fl_nadd, fl_nmul, fl_ndiv, fl_nsub, fl_msub, fl_nle, fl_nlt, fl_neq, fl_nclamp, fl_nin, fl_ltT, fl_ltF, fl_leT, fl_leF, fl_eqT, fl_eqF, decide_true, decide_false, Bool.true_and, Bool.and_true, Bool.false_and, Bool.and_false, if_true, if_false, Bool.false_eq_true, Option.isSome_some, Option.getD_some, not_true_eq_false, not_false_eq_true, Option.toList_some, Option.toList_none, List.cons_append, List.nil_append, fbC_265_36, ho, fbC_265_818, fbP_265_822, fbC_265_828, fbP_265_832, a, b, fbC_265_942]
theorem fw_again (sk : fl_sk k0 i0) (kx : k0 1048608 = (6, L)) (ix : i0 1048608 = xs) (hL : L < 10000) (c2 : c.1 ≤ 285) (I : fl_Inv k0 c h) (hs : fl_st k0 i0 h) (hi : i + 3 ≤ L) (ho : xs i &&& Int32.ofNat 31 = Int32.ofNat 27) : ∃ h', fl_Rn fl_C 265 23 [some (.ref 1048608), some (.ref 0), some (.ref 259), some (.ref 284), some (.int (Int32.ofNat i))] [] h = fl_Rn fl_C 265 23 [some (.ref 1048608), some (.ref 0), some (.ref 259), some (.ref 284), some (.int (Int32.ofNat (i + 3)))] [] h' ∧ fl_Inv k0 c h' ∧ fl_st k0 i0 h' := by
  obtain ⟨v, h1, h2, a, b, J⟩ := fo_again I (xs (i + 1))
  have s := fw_st I.1 hs a b (by rw [J.2.1]; exact c2)
  refine ⟨h2, ?_, J, s.2⟩
  have q5 : 5 ≤ (k0 1048608).1 := by rw [kx]; exact (show 5 ≤ 6 by decide)
  have s1 := s.1 1048608 (by omega) q5
  have K1 : fl_k h1 1048608 = (6, L) := s1.1.trans kx
  have X1 : fl_i h1 1048608 = xs := s1.2.trans ix
  have X0 : fl_i h 1048608 = xs := (hs 1048608 (by omega) q5).trans ix
  have K0 : fl_k h 1048608 = (6, L) := by rw [I.1.1]; unfold fl_KK; rw [if_neg (by omega)]; exact kx
  have k10 : fl_k h 0 = (1, 10) := by rw [I.1.1]; exact fl_KF
  have k11 : fl_k h1 259 = (1, 11) := by
    by_cases z : fl_k h1 259 = (1, 11)
    · exact z
    · exfalso
      rw [fbE_255] at b
      simp only [z, decide_false, Bool.false_and, Bool.false_eq_true, if_false, reduceCtorEq] at b
  clear I J s s1 hs sk q5 kx ix
  rw [fbC_265_23]
  simp (disch := omega) only [K0, K1, X0, X1, k10, k11, fl_lit, fl_nadd, fl_nmul, fl_ndiv, fl_nsub, fl_msub, fl_nle, fl_nlt, fl_neq, fl_nclamp, fl_nin, fl_ltT, fl_ltF, fl_leT, fl_leF, fl_eqT, fl_eqF, decide_true, decide_false, Bool.true_and, Bool.and_true, Bool.false_and, Bool.and_false, if_true, if_false, Bool.false_eq_true, Option.isSome_some, Option.getD_some, not_true_eq_false, not_false_eq_true, Option.toList_some, Option.toList_none, List.cons_append, List.nil_append, fbC_265_36, ho, fbC_265_843, fbP_265_847, fbC_265_853, fbP_265_857, a, b, fbC_265_942]
theorem fw_count (sk : fl_sk k0 i0) (kx : k0 1048608 = (6, L)) (ix : i0 1048608 = xs) (hL : L < 10000) (c2 : c.1 ≤ 285) (I : fl_Inv k0 c h) (hs : fl_st k0 i0 h) (hi : i + 3 ≤ L) (ho : xs i &&& Int32.ofNat 31 = Int32.ofNat 28) : ∃ h', fl_Rn fl_C 265 23 [some (.ref 1048608), some (.ref 0), some (.ref 259), some (.ref 284), some (.int (Int32.ofNat i))] [] h = fl_Rn fl_C 265 23 [some (.ref 1048608), some (.ref 0), some (.ref 259), some (.ref 284), some (.int (Int32.ofNat (i + 3)))] [] h' ∧ fl_Inv k0 c h' ∧ fl_st k0 i0 h' := by
  obtain ⟨v, h1, h2, a, b, J⟩ := fo_count I (xs (i + 1))
  have s := fw_st I.1 hs a b (by rw [J.2.1]; exact c2)
  refine ⟨h2, ?_, J, s.2⟩
  have q5 : 5 ≤ (k0 1048608).1 := by rw [kx]; exact (show 5 ≤ 6 by decide)
  have s1 := s.1 1048608 (by omega) q5
  have K1 : fl_k h1 1048608 = (6, L) := s1.1.trans kx
  have X1 : fl_i h1 1048608 = xs := s1.2.trans ix
  have X0 : fl_i h 1048608 = xs := (hs 1048608 (by omega) q5).trans ix
  have K0 : fl_k h 1048608 = (6, L) := by rw [I.1.1]; unfold fl_KK; rw [if_neg (by omega)]; exact kx
  have k10 : fl_k h 0 = (1, 10) := by rw [I.1.1]; exact fl_KF
  have k11 : fl_k h1 259 = (1, 11) := by
    by_cases z : fl_k h1 259 = (1, 11)
    · exact z
    · exfalso
      rw [fbE_261] at b
      simp only [z, decide_false, Bool.false_and, Bool.false_eq_true, if_false, reduceCtorEq] at b
  clear I J s s1 hs sk q5 kx ix
  rw [fbC_265_23]
  simp (disch := omega) only [K0, K1, X0, X1, k10, k11, fl_lit, fl_nadd, fl_nmul, fl_ndiv, fl_nsub, fl_msub, fl_nle, fl_nlt, fl_neq, fl_nclamp, fl_nin, fl_ltT, fl_ltF, fl_leT, fl_leF, fl_eqT, fl_eqF, decide_true, decide_false, Bool.true_and, Bool.and_true, Bool.false_and, Bool.and_false, if_true, if_false, Bool.false_eq_true, Option.isSome_some, Option.getD_some, not_true_eq_false, not_false_eq_true, Option.toList_some, Option.toList_none, List.cons_append, List.nil_append, fbC_265_36, ho, fbC_265_868, fbP_265_872, fbC_265_878, fbP_265_882, a, b, fbC_265_942]
end
