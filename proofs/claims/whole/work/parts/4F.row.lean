/-! row -/
section
variable {k0 : Nat → Nat × Nat} {h h' : fl_H} {c : Nat × Nat × Nat × Bool}
def fl_bothR (k0 : Nat → Nat × Nat) (c : Nat × Nat × Nat × Bool) (p : Int32) (h : fl_H) : Prop := ∃ t b h1 h2 c', (c' = c ∨ c' = fl_cth c) ∧ fl_cl fl_C 263 [.ref 0, .int p, .ref 284] h = some (some (some (.int t)), h1) ∧ fl_cl fl_C 264 [.ref 259, .int p] h1 = some (some (some (.long b)), h2) ∧ fl_cl fl_C 101 [.ref 259] h2 = some (some (some (.int t)), h2) ∧ (t = Int32.ofNat 0 → fl_l h2 284 0 = b) ∧ fl_Inv k0 c' h2
theorem fo_row_a {n : Nat} {rv : Nat → Int64} (hg : fl_g k0 h) (iO : fl_iO h n rv) (p : Int32) : fl_cl fl_C 263 [.ref 0, .int p, .ref 284] h = if fl_in p n = true then some (some (some (.int (Int32.ofNat 0))), fl_wl h 284 (fl_up (fl_l h 284) 0 (rv p.toNatClampNeg))) else some (some (some (.int (Int32.ofNat 1))), fl_th h) := by
  have o := fl_o4 (k0 := k0)
  have n6 := iO.1
  have i2 := iO.2.2.2.1
  have o1 := o.1
  have o2 := o.2.1
  by_cases c0 : fl_in p n = true
  · rw [if_pos c0]
    obtain ⟨k, hk, rfl⟩ := fl_in_ex c0
    rw [fl_nclamp (show k < 2147483648 by omega)]
    have ei := fc_at o.2 hg (show k < 6 by omega)
    rw [show 4 + 2 = 6 from rfl, (iO.2.2.2.2 k hk).2] at ei
    clear iO
    rw [fbE_263, fbE_262]
    simp (disch := omega) only [fl_k_wl, fl_r_wl, fl_i_wl, fl_l_wl, fl_1_wl, fl_k_wi, fl_r_wi, fl_l_wi, fl_1_wi, fl_i_wi, fl_k_si, fl_r_si, fl_l_si, fl_k_sl, fl_r_sl, fl_i_sl, fl_up_self, fl_up_ne, fl_si_wi, fl_sl_wl, fl_wi_wi, fl_wl_wl, hg.1, hg.2, fl_KF, fl_RF, fl_KO, o1, o2, fl_lit, fl_nadd, fl_nmul, fl_ndiv, fl_nsub, fl_msub, fl_nle, fl_nlt, fl_neq, fl_nclamp, fl_nin, fl_ltT, fl_ltF, fl_leT, fl_leF, fl_eqT, fl_eqF, decide_true, decide_false, Bool.true_and, Bool.and_true, Bool.false_and, Bool.and_false, if_true, if_false, Bool.false_eq_true, Option.isSome_some, Option.getD_some, not_true_eq_false, not_false_eq_true, Option.toList_some, Option.toList_none, List.cons_append, List.nil_append, fbE_31, i2, fbP_262_12, fbE_106, fbP_106_8, ei, fbP_262_31, fbP_263_7n]
  · rw [if_neg c0]
    have e102 : fl_cl fl_C 262 [.ref 0, .int p] h = some (none, fl_th h) := by
      rw [fbE_262]
      by_cases l : p < 0
      · rw [fl_ifd l, fbC_262_15]
      · have l2 : ¬ p < Int32.ofNat n := fun z => c0 (fl_in_iff.mpr ⟨l, by
          have h3 := fl_i32_nat l
          rw [Int32.lt_iff_toInt_lt, fl_toI (by omega)] at z
          omega⟩)
        rw [fl_ifn l]
        clear iO
        simp (disch := omega) only [hg.1, hg.2, fl_KF, fl_RF, o1, fl_lit, fl_nadd, fl_nmul, fl_ndiv, fl_nsub, fl_msub, fl_nle, fl_nlt, fl_neq, fl_nclamp, fl_nin, fl_ltT, fl_ltF, fl_leT, fl_leF, fl_eqT, fl_eqF, decide_true, decide_false, Bool.true_and, Bool.and_true, Bool.false_and, Bool.and_false, if_true, if_false, Bool.false_eq_true, Option.isSome_some, Option.getD_some, not_true_eq_false, not_false_eq_true, Option.toList_some, Option.toList_none, List.cons_append, List.nil_append, fbE_31, i2, fbP_262_12, eq_false l2, fbC_262_15]
    rw [fbE_263]
    simp (disch := omega) only [hg.1, hg.2, fl_KF, fl_lit, fl_nadd, fl_nmul, fl_ndiv, fl_nsub, fl_msub, fl_nle, fl_nlt, fl_neq, fl_nclamp, fl_nin, fl_ltT, fl_ltF, fl_leT, fl_leF, fl_eqT, fl_eqF, decide_true, decide_false, Bool.true_and, Bool.and_true, Bool.false_and, Bool.and_false, if_true, if_false, Bool.false_eq_true, Option.isSome_some, Option.getD_some, not_true_eq_false, not_false_eq_true, Option.toList_some, Option.toList_none, List.cons_append, List.nil_append, e102, fbX_263_7n]
theorem fo_row_b {n : Nat} {rv : Nat → Int64} (hg : fl_g k0 h) (hn : n ≤ 6) (i1 : fl_i h 259 1 = Int32.ofNat n) (hr : ∀ j, j < n → fl_l h 260 j = rv j) (p : Int32) : fl_cl fl_C 264 [.ref 259, .int p] h = some (some (some (.long (if fl_in p n = true then rv p.toNatClampNeg else 0))), fl_wi h 259 (fl_up (fl_i h 259) 0 (if fl_in p n = true then Int32.ofNat 0 else Int32.ofNat 1))) := by
  have ew := fl_in64 (n := n) (by omega) p
  have e37 := fr_37 (h := h) (Int32.toInt64 p) 0 (Int32.toInt64 (Int32.ofNat n - Int32.ofNat 1))
  by_cases c0 : fl_in p n = true
  · rw [if_pos (ew.mpr c0)] at e37
    rw [if_pos c0, if_pos c0]
    obtain ⟨k, hk, rfl⟩ := fl_in_ex c0
    have e37s : fl_cl fl_C 37 [.long (Int32.toInt64 (Int32.ofNat k)), .long 0, .long (Int32.toInt64 (Int32.ofNat (n - 1)))] h = some (some (some (.int (Int32.ofNat 1))), h) := by
      rw [← fl_nsub (show 1 ≤ n by omega)]
      exact e37
    rw [fl_nclamp (show k < 2147483648 by omega)]
    have mk := hr k hk
    clear hr
    rw [fbE_264]
    simp (disch := omega) only [fl_k_wl, fl_r_wl, fl_i_wl, fl_l_wl, fl_1_wl, fl_k_wi, fl_r_wi, fl_l_wi, fl_1_wi, fl_i_wi, fl_k_si, fl_r_si, fl_l_si, fl_k_sl, fl_r_sl, fl_i_sl, fl_up_self, fl_up_ne, fl_si_wi, fl_sl_wl, fl_wi_wi, fl_wl_wl, hg.1, hg.2, fl_KM, fl_RM, fl_lit, fl_nadd, fl_nmul, fl_ndiv, fl_nsub, fl_msub, fl_nle, fl_nlt, fl_neq, fl_nclamp, fl_nin, fl_ltT, fl_ltF, fl_leT, fl_leF, fl_eqT, fl_eqF, decide_true, decide_false, Bool.true_and, Bool.and_true, Bool.false_and, Bool.and_false, if_true, if_false, Bool.false_eq_true, Option.isSome_some, Option.getD_some, not_true_eq_false, not_false_eq_true, Option.toList_some, Option.toList_none, List.cons_append, List.nil_append, i1, mk, e37s, fr_79, fbC_264_28, fbP_264_14, fbP_264_25]
  · rw [if_neg (fun z => c0 (ew.mp z))] at e37
    rw [if_neg c0, if_neg c0, fbE_264]
    clear hr
    by_cases n0 : n = 0
    · rw [n0] at i1 e37
      have e37s : fl_cl fl_C 37 [.long (Int32.toInt64 p), .long 0, .long (Int32.toInt64 (Int32.ofNat 0 - Int32.ofNat 1))] h = some (some (some (.int (Int32.ofNat 0))), h) := e37
      simp (disch := omega) only [fl_k_wl, fl_r_wl, fl_i_wl, fl_l_wl, fl_1_wl, fl_k_wi, fl_r_wi, fl_l_wi, fl_1_wi, fl_i_wi, fl_k_si, fl_r_si, fl_l_si, fl_k_sl, fl_r_sl, fl_i_sl, fl_up_self, fl_up_ne, fl_si_wi, fl_sl_wl, fl_wi_wi, fl_wl_wl, hg.1, hg.2, fl_KM, fl_RM, fl_lit, fl_nadd, fl_nmul, fl_ndiv, fl_nsub, fl_msub, fl_nle, fl_nlt, fl_neq, fl_nclamp, fl_nin, fl_ltT, fl_ltF, fl_leT, fl_leF, fl_eqT, fl_eqF, decide_true, decide_false, Bool.true_and, Bool.and_true, Bool.false_and, Bool.and_false, if_true, if_false, Bool.false_eq_true, Option.isSome_some, Option.getD_some, not_true_eq_false, not_false_eq_true, Option.toList_some, Option.toList_none, List.cons_append, List.nil_append, i1, e37s, fr_79, fbC_264_28, fbP_264_14, fbP_264_25]
    · have e37s : fl_cl fl_C 37 [.long (Int32.toInt64 p), .long 0, .long (Int32.toInt64 (Int32.ofNat (n - 1)))] h = some (some (some (.int (Int32.ofNat 0))), h) := by
        rw [← fl_nsub (show 1 ≤ n by omega)]
        exact e37
      simp (disch := omega) only [fl_k_wl, fl_r_wl, fl_i_wl, fl_l_wl, fl_1_wl, fl_k_wi, fl_r_wi, fl_l_wi, fl_1_wi, fl_i_wi, fl_k_si, fl_r_si, fl_l_si, fl_k_sl, fl_r_sl, fl_i_sl, fl_up_self, fl_up_ne, fl_si_wi, fl_sl_wl, fl_wi_wi, fl_wl_wl, hg.1, hg.2, fl_KM, fl_RM, fl_lit, fl_nadd, fl_nmul, fl_ndiv, fl_nsub, fl_msub, fl_nle, fl_nlt, fl_neq, fl_nclamp, fl_nin, fl_ltT, fl_ltF, fl_leT, fl_leF, fl_eqT, fl_eqF, decide_true, decide_false, Bool.true_and, Bool.and_true, Bool.false_and, Bool.and_false, if_true, if_false, Bool.false_eq_true, Option.isSome_some, Option.getD_some, not_true_eq_false, not_false_eq_true, Option.toList_some, Option.toList_none, List.cons_append, List.nil_append, i1, e37s, fr_79, fbC_264_28, fbP_264_14, fbP_264_25]
theorem fo_row (I : fl_Inv k0 c h) (p : Int32) : fl_bothR k0 c p h := by
  obtain ⟨n, rv, iO⟩ := I.2.2.2.1
  have a := fo_row_a I.1 iO p
  by_cases c0 : fl_in p n = true
  · rw [if_pos c0] at a
    have I1 := fl_Inv_out I (fl_up (fl_l h 284) 0 (rv p.toNatClampNeg))
    have b := fo_row_b (rv := rv) I1.1 iO.1 (by rw [fl_i_wl]; exact iO.2.1) (fun j hj => by rw [fl_l_wl, if_neg (by omega)]; exact (iO.2.2.2.2 j hj).1) p
    rw [if_pos c0, if_pos c0] at b
    have I2 := fl_Inv_qt I1 (fl_qt_0 (x := Int32.ofNat 0))
    have t := fr_101 I2.1
    rw [fl_i_wi, if_pos rfl, fl_up_self] at t
    refine ⟨_, _, _, _, c, Or.inl rfl, a, b, t, fun _ => ?_, I2⟩
    rw [fl_l_wi, fl_l_wl, if_pos rfl, fl_up_self]
  · rw [if_neg c0] at a
    have I1 := fl_Inv_th I
    have b := fo_row_b (rv := rv) I1.1 iO.1 (show fl_i (fl_th h) 259 1 = _ from iO.2.1) (fun j hj => show fl_l (fl_th h) 260 j = _ from (iO.2.2.2.2 j hj).1) p
    rw [if_neg c0, if_neg c0] at b
    have I2 := fl_Inv_qt I1 (fl_qt_0 (x := Int32.ofNat 1))
    have t := fr_101 I2.1
    rw [fl_i_wi, if_pos rfl, fl_up_self] at t
    exact ⟨_, _, _, _, _, Or.inr rfl, a, b, t, fun z => absurd z (by decide), I2⟩
end
