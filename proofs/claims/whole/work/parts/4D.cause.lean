/-! cause, pin -/
section
variable {k0 : Nat → Nat × Nat} {h : fl_H} {c : Nat × Nat × Nat × Bool}
def fl_cau (n : Nat) (ck cm : Nat → Nat) (p0 p1 : Int32) : Int32 := if fl_in p0 n = true then (if p1 = Int32.ofNat 0 then Int32.ofNat (ck p0.toNatClampNeg) else if p1 = Int32.ofNat 1 then Int32.ofNat (cm p0.toNatClampNeg) else -Int32.ofNat 1) else -Int32.ofNat 1
theorem fo_cause_a {n : Nat} {ck cm : Nat → Nat} (hg : fl_g k0 h) (iC : fl_iC h n ck cm) (p0 p1 : Int32) : fl_cl fl_C 90 [.ref 0, .int p0, .int p1] h = some (some (some (.int (fl_cau n ck cm p0 p1))), h) := by
  have o7 : fl_KK k0 7 = (1, 6) ∧ fl_RR 7 1 = some 21 ∧ fl_RR 7 2 = some 24 := ⟨rfl, rfl, rfl⟩
  have a := fl_o21 (k0 := k0)
  have b := fl_o24 (k0 := k0)
  have a1 := a.1
  have b1 := b.1
  have a2 := a.2.1
  have b2 := b.2.1
  have n4 := iC.1
  have i21 := iC.2.2.2.1
  unfold fl_cau
  by_cases c0 : fl_in p0 n = true
  · rw [if_pos c0]
    obtain ⟨k, hk, rfl⟩ := fl_in_ex c0
    have dv := iC.2.2.2.2.2.2 k hk
    have ea := fc_int a.2 hg (show k < 4 by omega)
    have eb := fc_int b.2 hg (show k < 4 by omega)
    rw [show 21 + 2 = 23 from rfl, dv.2.2.2.2.1, fl_o32] at ea
    rw [show 24 + 2 = 26 from rfl, dv.2.2.2.2.2, fl_o32] at eb
    rw [fl_nclamp (show k < 2147483648 by omega)]
    clear iC dv
    rw [fbE_90]
    by_cases z0 : p1 = Int32.ofNat 0
    · rw [if_pos z0, z0]
      simp (disch := omega) only [hg.1, hg.2, fl_KF, fl_RF, o7, a1, b1, a2, b2, fl_lit, fl_nadd, fl_nmul, fl_ndiv, fl_nsub, fl_msub, fl_nle, fl_nlt, fl_neq, fl_nclamp, fl_nin, fl_ltT, fl_ltF, fl_leT, fl_leF, fl_eqT, fl_eqF, decide_true, decide_false, Bool.true_and, Bool.and_true, Bool.false_and, Bool.and_false, if_true, if_false, Bool.false_eq_true, Option.isSome_some, Option.getD_some, not_true_eq_false, not_false_eq_true, Option.toList_some, Option.toList_none, List.cons_append, List.nil_append, fbE_31, i21, fbE_41, fbP_41_8, ea, eb, fbC_90_18, fbP_90_15, fbP_90_59, fbP_90_71]
    · rw [if_neg z0]
      by_cases z1 : p1 = Int32.ofNat 1
      · rw [if_pos z1, z1]
        simp (disch := omega) only [hg.1, hg.2, fl_KF, fl_RF, o7, a1, b1, a2, b2, fl_lit, fl_nadd, fl_nmul, fl_ndiv, fl_nsub, fl_msub, fl_nle, fl_nlt, fl_neq, fl_nclamp, fl_nin, fl_ltT, fl_ltF, fl_leT, fl_leF, fl_eqT, fl_eqF, decide_true, decide_false, Bool.true_and, Bool.and_true, Bool.false_and, Bool.and_false, if_true, if_false, Bool.false_eq_true, Option.isSome_some, Option.getD_some, not_true_eq_false, not_false_eq_true, Option.toList_some, Option.toList_none, List.cons_append, List.nil_append, fbE_31, i21, fbE_41, fbP_41_8, ea, eb, fbC_90_18, fbP_90_15, fbP_90_59, fbP_90_71]
      · rw [if_neg z1]
        simp (disch := omega) only [hg.1, hg.2, fl_KF, fl_RF, o7, a1, b1, a2, b2, fl_lit, fl_nadd, fl_nmul, fl_ndiv, fl_nsub, fl_msub, fl_nle, fl_nlt, fl_neq, fl_nclamp, fl_nin, fl_ltT, fl_ltF, fl_leT, fl_leF, fl_eqT, fl_eqF, decide_true, decide_false, Bool.true_and, Bool.and_true, Bool.false_and, Bool.and_false, if_true, if_false, Bool.false_eq_true, Option.isSome_some, Option.getD_some, not_true_eq_false, not_false_eq_true, Option.toList_some, Option.toList_none, List.cons_append, List.nil_append, fbE_31, i21, eq_false z0, eq_false z1, fbC_90_18, fbP_90_15, fbP_90_59, fbP_90_71]
  · rw [if_neg c0, fbE_90]
    by_cases l : p0 < 0
    · rw [fl_ifd l, fbC_90_18]; rfl
    · have l2 : ¬ p0 < Int32.ofNat n := fun z => c0 (fl_in_iff.mpr ⟨l, by
        have h3 := fl_i32_nat l
        rw [Int32.lt_iff_toInt_lt, fl_toI (by omega)] at z
        omega⟩)
      rw [fl_ifn l]
      simp (disch := omega) only [hg.1, hg.2, fl_KF, fl_RF, o7, a1, fl_lit, fl_nadd, fl_nmul, fl_ndiv, fl_nsub, fl_msub, fl_nle, fl_nlt, fl_neq, fl_nclamp, fl_nin, fl_ltT, fl_ltF, fl_leT, fl_leF, fl_eqT, fl_eqF, decide_true, decide_false, Bool.true_and, Bool.and_true, Bool.false_and, Bool.and_false, if_true, if_false, Bool.false_eq_true, Option.isSome_some, Option.getD_some, not_true_eq_false, not_false_eq_true, Option.toList_some, Option.toList_none, List.cons_append, List.nil_append, fbE_31, i21, fbP_90_15, eq_false l2, fbC_90_18]
theorem fo_cause_b {n : Nat} {ck cm : Nat → Nat} (hg : fl_g k0 h) (iC : fl_iC h n ck cm) (p0 p1 : Int32) : ∃ y, fl_qt h y ∧ fl_cl fl_C 91 [.ref 259, .int p0, .int p1] h = some (some (some (.int (fl_cau n ck cm p0 p1))), y) := by
  have q0 := fl_qt_0 (h := h) (x := Int32.ofNat 0)
  have n4 := iC.1
  have i11 := iC.2.1
  have ew := fl_in64 (n := n) (by omega) p0
  have e37 := fr_37 (h := fl_wi h 259 (fl_up (fl_i h 259) 0 (Int32.ofNat 0))) (Int32.toInt64 p0) 0 (Int32.toInt64 (Int32.ofNat n - Int32.ofNat 1))
  have ew1 := fl_in64n (n := 1) (by omega) p1
  have e37' := fr_37 (h := fl_wi h 259 (fl_up (fl_i h 259) 0 (Int32.ofNat 0))) (Int32.toInt64 p1) 0 1
  rw [show Int32.toInt64 (Int32.ofNat 1) = 1 from rfl] at ew1
  refine ⟨_, q0, ?_⟩
  unfold fl_cau
  by_cases c0 : fl_in p0 n = true
  · rw [if_pos (ew.mpr c0)] at e37
    rw [if_pos c0]
    obtain ⟨k, hk, rfl⟩ := fl_in_ex c0
    have dv := iC.2.2.2.2.2.2 k hk
    have d1 := dv.2.2.1
    have d2 := dv.2.2.2.1
    rw [fl_nclamp (show k < 2147483648 by omega)]
    have e37s : fl_cl fl_C 37 [.long (Int32.toInt64 (Int32.ofNat k)), .long 0, .long (Int32.toInt64 (Int32.ofNat (n - 1)))] (fl_wi h 259 (fl_up (fl_i h 259) 0 (Int32.ofNat 0))) = some (some (some (.int (Int32.ofNat 1))), fl_wi h 259 (fl_up (fl_i h 259) 0 (Int32.ofNat 0))) := by
      rw [← fl_nsub (show 1 ≤ n by omega)]
      exact e37
    by_cases c1 : fl_in p1 (1 + 1) = true
    · rw [if_pos (ew1.mpr c1)] at e37'
      obtain ⟨z, hz, rfl⟩ := fl_in_ex c1
      clear iC dv
      rcases (show z = 0 ∨ z = 1 by omega) with e | e <;> subst e <;> rw [fbE_91] <;> simp (disch := omega) only [fl_k_wl, fl_r_wl, fl_i_wl, fl_l_wl, fl_1_wl, fl_k_wi, fl_r_wi, fl_l_wi, fl_1_wi, fl_i_wi, fl_k_si, fl_r_si, fl_l_si, fl_k_sl, fl_r_sl, fl_i_sl, fl_up_self, fl_up_ne, fl_si_wi, fl_sl_wl, fl_wi_wi, fl_wl_wl, hg.1, hg.2, fl_KM, fl_RM, fl_lit, fl_nadd, fl_nmul, fl_ndiv, fl_nsub, fl_msub, fl_nle, fl_nlt, fl_neq, fl_nclamp, fl_nin, fl_ltT, fl_ltF, fl_leT, fl_leF, fl_eqT, fl_eqF, decide_true, decide_false, Bool.true_and, Bool.and_true, Bool.false_and, Bool.and_false, if_true, if_false, Bool.false_eq_true, Option.isSome_some, Option.getD_some, not_true_eq_false, not_false_eq_true, Option.toList_some, Option.toList_none, List.cons_append, List.nil_append, i11, e37s, e37', d1, d2, fbC_91_5, fbC_91_31, fbP_91_18, fbP_91_28]
    · rw [if_neg (fun z => c1 (ew1.mp z))] at e37'
      have z0 : ¬ p1 = Int32.ofNat 0 := fun z => c1 (by rw [z]; rfl)
      have z1 : ¬ p1 = Int32.ofNat 1 := fun z => c1 (by rw [z]; rfl)
      rw [if_neg z0, if_neg z1, fbE_91]
      clear iC dv
      simp (disch := omega) only [fl_k_wl, fl_r_wl, fl_i_wl, fl_l_wl, fl_1_wl, fl_k_wi, fl_r_wi, fl_l_wi, fl_1_wi, fl_i_wi, fl_k_si, fl_r_si, fl_l_si, fl_k_sl, fl_r_sl, fl_i_sl, fl_up_self, fl_up_ne, fl_si_wi, fl_sl_wl, fl_wi_wi, fl_wl_wl, hg.1, hg.2, fl_KM, fl_RM, fl_lit, fl_nadd, fl_nmul, fl_ndiv, fl_nsub, fl_msub, fl_nle, fl_nlt, fl_neq, fl_nclamp, fl_nin, fl_ltT, fl_ltF, fl_leT, fl_leF, fl_eqT, fl_eqF, decide_true, decide_false, Bool.true_and, Bool.and_true, Bool.false_and, Bool.and_false, if_true, if_false, Bool.false_eq_true, Option.isSome_some, Option.getD_some, not_true_eq_false, not_false_eq_true, Option.toList_some, Option.toList_none, List.cons_append, List.nil_append, i11, e37s, e37', fbC_91_5, fbC_91_31, fbP_91_18, fbP_91_28]
  · rw [if_neg (fun z => c0 (ew.mp z))] at e37
    rw [if_neg c0, fbE_91]
    by_cases n0 : n = 0
    · subst n0
      have e37s : fl_cl fl_C 37 [.long (Int32.toInt64 p0), .long 0, .long (Int32.toInt64 (Int32.ofNat 0 - Int32.ofNat 1))] (fl_wi h 259 (fl_up (fl_i h 259) 0 (Int32.ofNat 0))) = some (some (some (.int (Int32.ofNat 0))), fl_wi h 259 (fl_up (fl_i h 259) 0 (Int32.ofNat 0))) := e37
      clear iC
      simp (disch := omega) only [fl_k_wl, fl_r_wl, fl_i_wl, fl_l_wl, fl_1_wl, fl_k_wi, fl_r_wi, fl_l_wi, fl_1_wi, fl_i_wi, fl_k_si, fl_r_si, fl_l_si, fl_k_sl, fl_r_sl, fl_i_sl, fl_up_self, fl_up_ne, fl_si_wi, fl_sl_wl, fl_wi_wi, fl_wl_wl, hg.1, hg.2, fl_KM, fl_RM, fl_lit, fl_nadd, fl_nmul, fl_ndiv, fl_nsub, fl_msub, fl_nle, fl_nlt, fl_neq, fl_nclamp, fl_nin, fl_ltT, fl_ltF, fl_leT, fl_leF, fl_eqT, fl_eqF, decide_true, decide_false, Bool.true_and, Bool.and_true, Bool.false_and, Bool.and_false, if_true, if_false, Bool.false_eq_true, Option.isSome_some, Option.getD_some, not_true_eq_false, not_false_eq_true, Option.toList_some, Option.toList_none, List.cons_append, List.nil_append, i11, e37s, fbC_91_5, fbC_91_31, fbP_91_18, fbP_91_28]
    · have e37s : fl_cl fl_C 37 [.long (Int32.toInt64 p0), .long 0, .long (Int32.toInt64 (Int32.ofNat (n - 1)))] (fl_wi h 259 (fl_up (fl_i h 259) 0 (Int32.ofNat 0))) = some (some (some (.int (Int32.ofNat 0))), fl_wi h 259 (fl_up (fl_i h 259) 0 (Int32.ofNat 0))) := by
        rw [← fl_nsub (show 1 ≤ n by omega)]
        exact e37
      clear iC
      simp (disch := omega) only [fl_k_wl, fl_r_wl, fl_i_wl, fl_l_wl, fl_1_wl, fl_k_wi, fl_r_wi, fl_l_wi, fl_1_wi, fl_i_wi, fl_k_si, fl_r_si, fl_l_si, fl_k_sl, fl_r_sl, fl_i_sl, fl_up_self, fl_up_ne, fl_si_wi, fl_sl_wl, fl_wi_wi, fl_wl_wl, hg.1, hg.2, fl_KM, fl_RM, fl_lit, fl_nadd, fl_nmul, fl_ndiv, fl_nsub, fl_msub, fl_nle, fl_nlt, fl_neq, fl_nclamp, fl_nin, fl_ltT, fl_ltF, fl_leT, fl_leF, fl_eqT, fl_eqF, decide_true, decide_false, Bool.true_and, Bool.and_true, Bool.false_and, Bool.and_false, if_true, if_false, Bool.false_eq_true, Option.isSome_some, Option.getD_some, not_true_eq_false, not_false_eq_true, Option.toList_some, Option.toList_none, List.cons_append, List.nil_append, i11, e37s, fbC_91_5, fbC_91_31, fbP_91_18, fbP_91_28]
theorem fo_cause (I : fl_Inv k0 c h) (p0 p1 : Int32) : fl_both k0 c 90 91 [.int p0, .int p1] [.int p0, .int p1] h := by
  obtain ⟨n, ck, cm, iC⟩ := I.2.2.2.2.1
  obtain ⟨y, q, e⟩ := fo_cause_b I.1 iC p0 p1
  exact ⟨_, h, y, fo_cause_a I.1 iC p0 p1, e, fl_Inv_qt I q⟩
end
