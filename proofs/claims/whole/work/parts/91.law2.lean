/-! THE LAW, a step: calls that may throw; what is no call (printed by wip/whole/genlaw2.py) -/
section
variable {k0 : Nat → Nat × Nat} {i0 : Nat → Nat → Int32} {h : fl_H} {xs : Nat → Int32} {L i : Nat} {c : Nat × Nat × Nat × Bool}
theorem fw_line (sk : fl_sk k0 i0) (kx : k0 1048608 = (6, L)) (ix : i0 1048608 = xs) (hL : L < 10000) (c2 : c.1 ≤ 285) (I : fl_Inv k0 c h) (hs : fl_st k0 i0 h) (hi : i + 3 ≤ L) (ho : xs i &&& Int32.ofNat 31 = Int32.ofNat 4) : ∃ h' c', (c' = c ∨ c' = fl_cth c) ∧ fl_Rn fl_C 265 23 [some (.ref 1048608), some (.ref 0), some (.ref 259), some (.ref 284), some (.int (Int32.ofNat i))] [] h = fl_Rn fl_C 265 23 [some (.ref 1048608), some (.ref 0), some (.ref 259), some (.ref 284), some (.int (Int32.ofNat (i + 3)))] [] h' ∧ fl_Inv k0 c' h' ∧ fl_st k0 i0 h' := by
  obtain ⟨t, b', h1, h2, c', hc, a, b, b1, z, J⟩ := fo_line I (xs (i + 1)) (xs (i + 2))
  have s := fw_st I.1 hs a b (by rw [J.2.1]; rcases hc with e | e <;> rw [e] <;> exact c2)
  refine ⟨h2, c', hc, ?_, J, s.2⟩
  have q5 : 5 ≤ (k0 1048608).1 := by rw [kx]; exact (show 5 ≤ 6 by decide)
  have s1 := s.1 1048608 (by omega) q5
  have K1 : fl_k h1 1048608 = (6, L) := s1.1.trans kx
  have X1 : fl_i h1 1048608 = xs := s1.2.trans ix
  have X0 : fl_i h 1048608 = xs := (hs 1048608 (by omega) q5).trans ix
  have K0 : fl_k h 1048608 = (6, L) := by rw [I.1.1]; unfold fl_KK; rw [if_neg (by omega)]; exact kx
  have k10 : fl_k h 0 = (1, 10) := by rw [I.1.1]; exact fl_KF
  have k12 : fl_k h2 259 = (1, 11) := by rw [J.1.1]; exact fl_KM.1
  have k13 : fl_k h2 284 = (3, 1) := by rw [J.1.1]; exact fl_KO
  simp only [List.cons_append, List.nil_append] at a b
  have k11 : fl_k h1 259 = (1, 11) := by
    by_cases z : fl_k h1 259 = (1, 11)
    · exact z
    · exfalso
      rw [fbE_100] at b
      simp only [z, decide_false, Bool.false_and, Bool.false_eq_true, if_false, reduceCtorEq] at b
  have tt : (t = t) = True := eq_self _
  by_cases t0 : t = Int32.ofNat 0
  · have z' := z t0
    have cc : (lg_cmp (Int32.toInt64 b') (Int32.toInt64 b') = Int32.ofNat 0) = True := eq_true (fl_cmp0.mpr rfl)
    subst t0
    clear I J s s1 hs sk q5 kx ix z hc
    rw [fbC_265_23]
    simp (disch := omega) only [K0, K1, X0, X1, k10, k11, k12, k13, fl_lit, fl_nadd, fl_nmul, fl_ndiv, fl_nsub, fl_msub, fl_nle, fl_nlt, fl_neq, fl_nclamp, fl_nin, fl_ltT, fl_ltF, fl_leT, fl_leF, fl_eqT, fl_eqF, decide_true, decide_false, Bool.true_and, Bool.and_true, Bool.false_and, Bool.and_false, if_true, if_false, Bool.false_eq_true, Option.isSome_some, Option.getD_some, not_true_eq_false, not_false_eq_true, Option.toList_some, Option.toList_none, List.cons_append, List.nil_append, fbC_265_36, ho, fbC_265_278, fbC_265_279, fbC_265_284, fbC_265_285, fbP_265_289, fbC_265_297, fbC_265_298, fbC_265_303, fbP_265_307, fbP_265_313, fbC_265_337, fbC_265_328, a, b, b1, z', cc, fbC_265_942]
  · have ne := eq_false t0
    clear I J s s1 hs sk q5 kx ix z hc
    rw [fbC_265_23]
    simp (disch := omega) only [K0, K1, X0, X1, k10, k11, k12, k13, fl_lit, fl_nadd, fl_nmul, fl_ndiv, fl_nsub, fl_msub, fl_nle, fl_nlt, fl_neq, fl_nclamp, fl_nin, fl_ltT, fl_ltF, fl_leT, fl_leF, fl_eqT, fl_eqF, decide_true, decide_false, Bool.true_and, Bool.and_true, Bool.false_and, Bool.and_false, if_true, if_false, Bool.false_eq_true, Option.isSome_some, Option.getD_some, not_true_eq_false, not_false_eq_true, Option.toList_some, Option.toList_none, List.cons_append, List.nil_append, fbC_265_36, ho, fbC_265_278, fbC_265_279, fbC_265_284, fbC_265_285, fbP_265_289, fbC_265_297, fbC_265_298, fbC_265_303, fbP_265_307, fbP_265_313, fbC_265_337, fbC_265_328, a, b, b1, ne, fbC_265_942]
theorem fw_pin (sk : fl_sk k0 i0) (kx : k0 1048608 = (6, L)) (ix : i0 1048608 = xs) (hL : L < 10000) (c2 : c.1 ≤ 285) (I : fl_Inv k0 c h) (hs : fl_st k0 i0 h) (hi : i + 3 ≤ L) (ho : xs i &&& Int32.ofNat 31 = Int32.ofNat 5) : ∃ h' c', (c' = c ∨ c' = fl_cth c) ∧ fl_Rn fl_C 265 23 [some (.ref 1048608), some (.ref 0), some (.ref 259), some (.ref 284), some (.int (Int32.ofNat i))] [] h = fl_Rn fl_C 265 23 [some (.ref 1048608), some (.ref 0), some (.ref 259), some (.ref 284), some (.int (Int32.ofNat (i + 3)))] [] h' ∧ fl_Inv k0 c' h' ∧ fl_st k0 i0 h' := by
  obtain ⟨t, b', h1, h2, c', hc, a, b, b1, z, J⟩ := fo_pin I (xs (i + 1))
  have s := fw_st I.1 hs a b (by rw [J.2.1]; rcases hc with e | e <;> rw [e] <;> exact c2)
  refine ⟨h2, c', hc, ?_, J, s.2⟩
  have q5 : 5 ≤ (k0 1048608).1 := by rw [kx]; exact (show 5 ≤ 6 by decide)
  have s1 := s.1 1048608 (by omega) q5
  have K1 : fl_k h1 1048608 = (6, L) := s1.1.trans kx
  have X1 : fl_i h1 1048608 = xs := s1.2.trans ix
  have X0 : fl_i h 1048608 = xs := (hs 1048608 (by omega) q5).trans ix
  have K0 : fl_k h 1048608 = (6, L) := by rw [I.1.1]; unfold fl_KK; rw [if_neg (by omega)]; exact kx
  have k10 : fl_k h 0 = (1, 10) := by rw [I.1.1]; exact fl_KF
  have k12 : fl_k h2 259 = (1, 11) := by rw [J.1.1]; exact fl_KM.1
  have k13 : fl_k h2 284 = (3, 1) := by rw [J.1.1]; exact fl_KO
  simp only [List.cons_append, List.nil_append] at a b
  have k11 : fl_k h1 259 = (1, 11) := by
    by_cases z : fl_k h1 259 = (1, 11)
    · exact z
    · exfalso
      rw [fbE_104] at b
      simp only [z, decide_false, Bool.false_and, Bool.false_eq_true, if_false, reduceCtorEq] at b
  have tt : (t = t) = True := eq_self _
  by_cases t0 : t = Int32.ofNat 0
  · have z' := z t0
    have cc : (lg_cmp (Int32.toInt64 b') (Int32.toInt64 b') = Int32.ofNat 0) = True := eq_true (fl_cmp0.mpr rfl)
    subst t0
    clear I J s s1 hs sk q5 kx ix z hc
    rw [fbC_265_23]
    simp (disch := omega) only [K0, K1, X0, X1, k10, k11, k12, k13, fl_lit, fl_nadd, fl_nmul, fl_ndiv, fl_nsub, fl_msub, fl_nle, fl_nlt, fl_neq, fl_nclamp, fl_nin, fl_ltT, fl_ltF, fl_leT, fl_leF, fl_eqT, fl_eqF, decide_true, decide_false, Bool.true_and, Bool.and_true, Bool.false_and, Bool.and_false, if_true, if_false, Bool.false_eq_true, Option.isSome_some, Option.getD_some, not_true_eq_false, not_false_eq_true, Option.toList_some, Option.toList_none, List.cons_append, List.nil_append, fbC_265_36, ho, fbC_265_346, fbC_265_347, fbP_265_351, fbC_265_359, fbP_265_363, fbP_265_369, fbC_265_393, fbC_265_384, a, b, b1, z', cc, fbC_265_942]
  · have ne := eq_false t0
    clear I J s s1 hs sk q5 kx ix z hc
    rw [fbC_265_23]
    simp (disch := omega) only [K0, K1, X0, X1, k10, k11, k12, k13, fl_lit, fl_nadd, fl_nmul, fl_ndiv, fl_nsub, fl_msub, fl_nle, fl_nlt, fl_neq, fl_nclamp, fl_nin, fl_ltT, fl_ltF, fl_leT, fl_leF, fl_eqT, fl_eqF, decide_true, decide_false, Bool.true_and, Bool.and_true, Bool.false_and, Bool.and_false, if_true, if_false, Bool.false_eq_true, Option.isSome_some, Option.getD_some, not_true_eq_false, not_false_eq_true, Option.toList_some, Option.toList_none, List.cons_append, List.nil_append, fbC_265_36, ho, fbC_265_346, fbC_265_347, fbP_265_351, fbC_265_359, fbP_265_363, fbP_265_369, fbC_265_393, fbC_265_384, a, b, b1, ne, fbC_265_942]
theorem fw_row (sk : fl_sk k0 i0) (kx : k0 1048608 = (6, L)) (ix : i0 1048608 = xs) (hL : L < 10000) (c2 : c.1 ≤ 285) (I : fl_Inv k0 c h) (hs : fl_st k0 i0 h) (hi : i + 3 ≤ L) (ho : xs i &&& Int32.ofNat 31 = Int32.ofNat 29) : ∃ h' c', (c' = c ∨ c' = fl_cth c) ∧ fl_Rn fl_C 265 23 [some (.ref 1048608), some (.ref 0), some (.ref 259), some (.ref 284), some (.int (Int32.ofNat i))] [] h = fl_Rn fl_C 265 23 [some (.ref 1048608), some (.ref 0), some (.ref 259), some (.ref 284), some (.int (Int32.ofNat (i + 3)))] [] h' ∧ fl_Inv k0 c' h' ∧ fl_st k0 i0 h' := by
  obtain ⟨t, b', h1, h2, c', hc, a, b, b1, z, J⟩ := fo_row I (xs (i + 1))
  have s := fw_st I.1 hs a b (by rw [J.2.1]; rcases hc with e | e <;> rw [e] <;> exact c2)
  refine ⟨h2, c', hc, ?_, J, s.2⟩
  have q5 : 5 ≤ (k0 1048608).1 := by rw [kx]; exact (show 5 ≤ 6 by decide)
  have s1 := s.1 1048608 (by omega) q5
  have K1 : fl_k h1 1048608 = (6, L) := s1.1.trans kx
  have X1 : fl_i h1 1048608 = xs := s1.2.trans ix
  have X0 : fl_i h 1048608 = xs := (hs 1048608 (by omega) q5).trans ix
  have K0 : fl_k h 1048608 = (6, L) := by rw [I.1.1]; unfold fl_KK; rw [if_neg (by omega)]; exact kx
  have k10 : fl_k h 0 = (1, 10) := by rw [I.1.1]; exact fl_KF
  have k12 : fl_k h2 259 = (1, 11) := by rw [J.1.1]; exact fl_KM.1
  have k13 : fl_k h2 284 = (3, 1) := by rw [J.1.1]; exact fl_KO
  have k11 : fl_k h1 259 = (1, 11) := by
    by_cases z : fl_k h1 259 = (1, 11)
    · exact z
    · exfalso
      rw [fbE_264] at b
      simp only [z, decide_false, Bool.false_and, Bool.false_eq_true, if_false, reduceCtorEq] at b
  have tt : (t = t) = True := eq_self _
  by_cases t0 : t = Int32.ofNat 0
  · have z' := z t0
    have cc : (lg_cmp (b') (b') = Int32.ofNat 0) = True := eq_true (fl_cmp0.mpr rfl)
    subst t0
    clear I J s s1 hs sk q5 kx ix z hc
    rw [fbC_265_23]
    simp (disch := omega) only [K0, K1, X0, X1, k10, k11, k12, k13, fl_lit, fl_nadd, fl_nmul, fl_ndiv, fl_nsub, fl_msub, fl_nle, fl_nlt, fl_neq, fl_nclamp, fl_nin, fl_ltT, fl_ltF, fl_leT, fl_leF, fl_eqT, fl_eqF, decide_true, decide_false, Bool.true_and, Bool.and_true, Bool.false_and, Bool.and_false, if_true, if_false, Bool.false_eq_true, Option.isSome_some, Option.getD_some, not_true_eq_false, not_false_eq_true, Option.toList_some, Option.toList_none, List.cons_append, List.nil_append, fbC_265_36, ho, fbC_265_893, fbC_265_894, fbP_265_898, fbC_265_906, fbP_265_910, fbP_265_916, fbC_265_939, fbC_265_931, a, b, b1, z', cc, fbC_265_942]
  · have ne := eq_false t0
    clear I J s s1 hs sk q5 kx ix z hc
    rw [fbC_265_23]
    simp (disch := omega) only [K0, K1, X0, X1, k10, k11, k12, k13, fl_lit, fl_nadd, fl_nmul, fl_ndiv, fl_nsub, fl_msub, fl_nle, fl_nlt, fl_neq, fl_nclamp, fl_nin, fl_ltT, fl_ltF, fl_leT, fl_leF, fl_eqT, fl_eqF, decide_true, decide_false, Bool.true_and, Bool.and_true, Bool.false_and, Bool.and_false, if_true, if_false, Bool.false_eq_true, Option.isSome_some, Option.getD_some, not_true_eq_false, not_false_eq_true, Option.toList_some, Option.toList_none, List.cons_append, List.nil_append, fbC_265_36, ho, fbC_265_893, fbC_265_894, fbP_265_898, fbC_265_906, fbP_265_910, fbP_265_916, fbC_265_939, fbC_265_931, a, b, b1, ne, fbC_265_942]
theorem fw_none (kx : k0 1048608 = (6, L)) (ix : i0 1048608 = xs) (hL : L < 10000) (I : fl_Inv k0 c h) (hs : fl_st k0 i0 h) (hi : i + 3 ≤ L) {o : Nat} (o30 : 30 ≤ o) (o32 : o < 32) (ho : xs i &&& Int32.ofNat 31 = Int32.ofNat o) : fl_Rn fl_C 265 23 [some (.ref 1048608), some (.ref 0), some (.ref 259), some (.ref 284), some (.int (Int32.ofNat i))] [] h = fl_Rn fl_C 265 23 [some (.ref 1048608), some (.ref 0), some (.ref 259), some (.ref 284), some (.int (Int32.ofNat (i + 3)))] [] h := by
  have q5 : 5 ≤ (k0 1048608).1 := by rw [kx]; exact (show 5 ≤ 6 by decide)
  have X0 : fl_i h 1048608 = xs := (hs 1048608 (by omega) q5).trans ix
  have K0 : fl_k h 1048608 = (6, L) := by rw [I.1.1]; unfold fl_KK; rw [if_neg (by omega)]; exact kx
  clear I hs q5 kx ix
  rw [fbC_265_23]
  simp (disch := omega) only [K0, X0, fl_lit, fl_nadd, fl_nmul, fl_ndiv, fl_nsub, fl_msub, fl_nle, fl_nlt, fl_neq, fl_nclamp, fl_nin, fl_ltT, fl_ltF, fl_leT, fl_leF, fl_eqT, fl_eqF, decide_true, decide_false, Bool.true_and, Bool.and_true, Bool.false_and, Bool.and_false, if_true, if_false, Bool.false_eq_true, Option.isSome_some, Option.getD_some, not_true_eq_false, not_false_eq_true, Option.toList_some, Option.toList_none, List.cons_append, List.nil_append, fbC_265_36, ho, fbC_265_942]
/-- the script's end -/
theorem fw_over (kx : k0 1048608 = (6, L)) (hL : L < 10000) (I : fl_Inv k0 c h) (hi : L < i + 3) (h3 : 3 ≤ L) (hi2 : i < 10000) : fl_Rn fl_C 265 23 [some (.ref 1048608), some (.ref 0), some (.ref 259), some (.ref 284), some (.int (Int32.ofNat i))] [] h = some (some (some (.int (Int32.ofNat 1))), h) := by
  have K0 : fl_k h 1048608 = (6, L) := by rw [I.1.1]; unfold fl_KK; rw [if_neg (by omega)]; exact kx
  clear I kx
  rw [fbC_265_23]
  simp (disch := omega) only [K0, fl_lit, fl_nadd, fl_nmul, fl_ndiv, fl_nsub, fl_msub, fl_nle, fl_nlt, fl_neq, fl_nclamp, fl_nin, fl_ltT, fl_ltF, fl_leT, fl_leF, fl_eqT, fl_eqF, decide_true, decide_false, Bool.true_and, Bool.and_true, Bool.false_and, Bool.and_false, if_true, if_false, Bool.false_eq_true, Option.isSome_some, Option.getD_some, not_true_eq_false, not_false_eq_true, Option.toList_some, Option.toList_none, List.cons_append, List.nil_append]
/-- an int's last five bits -/
theorem fw_and31 (x : Int32) : ∃ o, o < 32 ∧ x &&& Int32.ofNat 31 = Int32.ofNat o := by
  refine ⟨fl_y3 (x &&& Int32.ofNat 31), ?_, ?_⟩
  · rw [fl_y3_and, show fl_y3 (Int32.ofNat 31) = 31 from rfl]
    exact Nat.lt_succ_of_le Nat.and_le_right
  · apply Int32.toBitVec_inj.mp
    apply BitVec.eq_of_toNat_eq
    have : fl_y3 (x &&& Int32.ofNat 31) < 2 ^ 32 := fl_y3_lt _
    show fl_y3 (x &&& Int32.ofNat 31) = (Int32.ofNat (fl_y3 (x &&& Int32.ofNat 31))).toBitVec.toNat
    rw [show (Int32.ofNat (fl_y3 (x &&& Int32.ofNat 31))).toBitVec = BitVec.ofNat 32 (fl_y3 (x &&& Int32.ofNat 31)) from rfl, BitVec.toNat_ofNat, Nat.mod_eq_of_lt this]
end
