/-! faulty -/
section
variable {k0 : Nat → Nat × Nat} {h : fl_H} {c : Nat × Nat × Nat × Bool}
theorem fl_tri {v : Nat} (hv : v ≤ 2) : (if decide (v = 1) = true then Int32.ofNat 1 else if decide (v = 0) = true then Int32.ofNat 0 else Int32.ofNat 2) = Int32.ofNat v := by
  rcases (show v = 0 ∨ v = 1 ∨ v = 2 by omega) with e | e | e <;> subst e <;> rfl
theorem fl_cvn_le {g : Nat → Nat} (w : fl_wf g) (hn : 0 < g 76) (f k : Nat) : fl_cvn g f k ≤ 2 := by
  have ok := fl_okp_g w
  unfold fl_cvn fl_fvl
  repeat' split
  all_goals exact fl_vl_le w ok (by omega) k
theorem fo_faulty_a {g : Nat → Nat} {s : Int64} (hg : fl_g k0 h) (w : fl_wf g) (d : fl_rn h 27 g s) (p0 p1 : Int32) : fl_cl fl_C 163 [.ref 0, .int p0, .int p1] h = some (some (some (.int (if fl_in p0 (2 * (g 0 + g 2)) = true ∧ fl_in p1 (g 0) = true then (if g 76 = 0 then -Int32.ofNat 2 else Int32.ofNat (fl_cvn g p0.toNatClampNeg p1.toNatClampNeg)) else -Int32.ofNat 1))), h) := by
  have O := fl_o27 (k0 := k0)
  have w1 := w.1
  have e162 := fc_162 hg O.2.1 w d.1 p0
  have e64 := fc_64 hg O.2.1 w d.1 p1
  have i3 := d.2.1.1
  have o27 : fl_KK k0 27 = (1, 7) ∧ fl_RR 27 0 = some (27 + 1) ∧ fl_RR 27 1 = some (27 + 14) := ⟨O.1.1, O.1.2.1, O.1.2.2.1⟩
  have o28 : fl_KK k0 (27 + 1) = (1, 4) := O.2.1.1.1
  have o41 : fl_KK k0 (27 + 14) = (1, 0) ∧ fl_RR (27 + 14) 1 = some (27 + 14 + 10) := ⟨O.2.2.1.1.1, O.2.2.1.1.2.2⟩
  have o51 : fl_KK k0 (27 + 14 + 10) = (1, 9) := O.2.2.1.2.2.1.1
  have w7 : g 76 ≤ 24 := by omega
  by_cases c0 : fl_in p0 (2 * (g 0 + g 2)) = true
  · by_cases c1 : fl_in p1 (g 0) = true
    · rw [if_pos c0] at e162
      rw [if_pos c1] at e64
      rw [if_pos ⟨c0, c1⟩]
      by_cases z : g 76 = 0
      · rw [if_pos z]
        rw [z] at i3
        clear w w1 d
        rw [fbE_163]
        simp (disch := omega) only [hg.1, hg.2, fl_KF, fl_RF, o27, o28, fl_lit, fl_nadd, fl_nmul, fl_ndiv, fl_nsub, fl_msub, fl_nle, fl_nlt, fl_neq, fl_nclamp, fl_nin, fl_ltT, fl_ltF, fl_leT, fl_leF, fl_eqT, fl_eqF, decide_true, decide_false, Bool.true_and, Bool.and_true, Bool.false_and, Bool.and_false, if_true, if_false, Bool.false_eq_true, Option.isSome_some, Option.getD_some, not_true_eq_false, not_false_eq_true, Option.toList_some, Option.toList_none, List.cons_append, List.nil_append, e162, e64, i3, fbC_163_28, fbP_163_11, fbP_163_25, fbP_163_60]
      · rw [if_neg z]
        obtain ⟨f, hf, rfl⟩ := fl_in_ex c0
        obtain ⟨k, hk, rfl⟩ := fl_in_ex c1
        have e158 := fc_158 hg O.2.2.1.2.2 (show k < 12 by omega) (show f < 64 by omega)
        have dv := (d.2.2.2.2.2.1 (by omega) k hk).2
        rw [dv.1, dv.2, fl_hb_B _ (by omega), fl_hb_B _ (by omega), fl_tri (fl_cvn_le w (by omega) f k)] at e158
        have z' : 0 < g 76 := by omega
        have f64 : f < 64 := by omega
        have k12 : k < 12 := by omega
        clear w w1 d dv
        rw [fbE_163]
        simp (disch := omega) only [hg.1, hg.2, fl_KF, fl_RF, o27, o28, o41, o51, fl_lit, fl_nadd, fl_nmul, fl_ndiv, fl_nsub, fl_msub, fl_nle, fl_nlt, fl_neq, fl_nclamp, fl_nin, fl_ltT, fl_ltF, fl_leT, fl_leF, fl_eqT, fl_eqF, decide_true, decide_false, Bool.true_and, Bool.and_true, Bool.false_and, Bool.and_false, if_true, if_false, Bool.false_eq_true, Option.isSome_some, Option.getD_some, not_true_eq_false, not_false_eq_true, Option.toList_some, Option.toList_none, List.cons_append, List.nil_append, e162, e64, i3, e158, fbC_163_28, fbP_163_11, fbP_163_25, fbP_163_60]
    · rw [if_pos c0] at e162
      rw [if_neg c1] at e64
      rw [if_neg (fun z => c1 z.2)]
      clear w w1 d
      rw [fbE_163]
      simp (disch := omega) only [hg.1, hg.2, fl_KF, fl_RF, o27, o28, fl_lit, fl_nadd, fl_nmul, fl_ndiv, fl_nsub, fl_msub, fl_nle, fl_nlt, fl_neq, fl_nclamp, fl_nin, fl_ltT, fl_ltF, fl_leT, fl_leF, fl_eqT, fl_eqF, decide_true, decide_false, Bool.true_and, Bool.and_true, Bool.false_and, Bool.and_false, if_true, if_false, Bool.false_eq_true, Option.isSome_some, Option.getD_some, not_true_eq_false, not_false_eq_true, Option.toList_some, Option.toList_none, List.cons_append, List.nil_append, e162, e64, fbC_163_28, fbP_163_11, fbP_163_25, fbP_163_60]
  · rw [if_neg c0] at e162
    rw [if_neg (fun z => c0 z.1)]
    clear w w1 d
    rw [fbE_163]
    simp (disch := omega) only [hg.1, hg.2, fl_KF, fl_RF, o27, o28, fl_lit, fl_nadd, fl_nmul, fl_ndiv, fl_nsub, fl_msub, fl_nle, fl_nlt, fl_neq, fl_nclamp, fl_nin, fl_ltT, fl_ltF, fl_leT, fl_leF, fl_eqT, fl_eqF, decide_true, decide_false, Bool.true_and, Bool.and_true, Bool.false_and, Bool.and_false, if_true, if_false, Bool.false_eq_true, Option.isSome_some, Option.getD_some, not_true_eq_false, not_false_eq_true, Option.toList_some, Option.toList_none, List.cons_append, List.nil_append, e162, fbC_163_28, fbP_163_11, fbP_163_25, fbP_163_60]
theorem fo_faulty_b {g : Nat → Nat} (hg : fl_g k0 h) (m : fl_mm h g) (w : fl_wf g) (p0 p1 : Int32) : ∃ h2, fl_cl fl_C 165 [.ref 259, .int p0, .int p1] h = some (some (some (.int (if fl_in p0 (2 * (g 0 + g 2)) = true ∧ fl_in p1 (g 0) = true then (if g 76 = 0 then -Int32.ofNat 2 else Int32.ofNat (fl_cvn g p0.toNatClampNeg p1.toNatClampNeg)) else -Int32.ofNat 1))), h2) ∧ fl_qt h h2 := by
  have w1 := w.1
  have w7 : g 76 ≤ 24 := by omega
  have w0 : g 0 ≤ 12 := by omega
  have w2 : g 2 ≤ 20 := by omega
  have q0 := fl_qt_0 (h := h) (x := Int32.ofNat 0)
  have hg0 := fl_qo_g hg (fl_qt_qo q0)
  have m0 := fl_qo_mm m (fl_qt_qo q0)
  have e164 := fr_164 hg0 m0 w0 w2 p0
  have e96 := fr_96 hg0 m0 w0 p1
  have e130 := fr_130 hg0 m0
  by_cases c0 : fl_in p0 (2 * (g 0 + g 2)) = true
  · by_cases c1 : fl_in p1 (g 0) = true
    · rw [if_pos c0] at e164
      rw [if_pos c1] at e96
      rw [if_pos ⟨c0, c1⟩]
      by_cases z : g 76 = 0
      · rw [if_pos z]
        refine ⟨_, ?_, q0⟩
        rw [z] at e130
        clear w w1 m m0
        rw [fbE_165]
        simp (disch := omega) only [fl_k_wl, fl_r_wl, fl_i_wl, fl_l_wl, fl_1_wl, fl_k_wi, fl_r_wi, fl_l_wi, fl_1_wi, fl_i_wi, fl_k_si, fl_r_si, fl_l_si, fl_k_sl, fl_r_sl, fl_i_sl, fl_up_self, fl_up_ne, fl_si_wi, fl_sl_wl, fl_wi_wi, fl_wl_wl, hg.1, hg.2, fl_KM, fl_RM, fl_lit, fl_nadd, fl_nmul, fl_ndiv, fl_nsub, fl_msub, fl_nle, fl_nlt, fl_neq, fl_nclamp, fl_nin, fl_ltT, fl_ltF, fl_leT, fl_leF, fl_eqT, fl_eqF, decide_true, decide_false, Bool.true_and, Bool.and_true, Bool.false_and, Bool.and_false, if_true, if_false, Bool.false_eq_true, Option.isSome_some, Option.getD_some, not_true_eq_false, not_false_eq_true, Option.toList_some, Option.toList_none, List.cons_append, List.nil_append, e164, e96, e130, fbC_165_5, fbC_165_21, fbC_165_47, fbP_165_10, fbP_165_18, fbP_165_27, fbP_165_37]
      · rw [if_neg z]
        obtain ⟨r, y, e141, rfl, ay⟩ := fr_141 hg0 m0 w
        obtain ⟨f, hf, rfl⟩ := fl_in_ex c0
        obtain ⟨k, hk, rfl⟩ := fl_in_ex c1
        have rf := (ay.2.2.2.2 f hf).2.2.2.1 (by omega) k hk
        have cv : fl_cvn g f = fl_fvl g f (fl_ps g) (g 76) := if_pos hf
        have gy := fl_qo_g hg0 (fl_qt_qo (fl_qt_all ay))
        refine ⟨y, ?_, fl_qt_tr q0 (fl_qt_all ay)⟩
        rw [show fl_fvl g f (fun t => g (78 + t)) (g 76) k = fl_cvn g f k by rw [cv]; rfl] at rf
        have f64 : f < 64 := by omega
        have k12 : k < 12 := by omega
        have z' : 0 < g 76 := by omega
        clear w w1 m m0 ay cv
        rw [fbE_165]
        simp (disch := omega) only [fl_k_wl, fl_r_wl, fl_i_wl, fl_l_wl, fl_1_wl, fl_k_wi, fl_r_wi, fl_l_wi, fl_1_wi, fl_i_wi, fl_k_si, fl_r_si, fl_l_si, fl_k_sl, fl_r_sl, fl_i_sl, fl_up_self, fl_up_ne, fl_si_wi, fl_sl_wl, fl_wi_wi, fl_wl_wl, hg.1, hg.2, gy.1, gy.2, fl_KM, fl_RM, fl_lit, fl_nadd, fl_nmul, fl_ndiv, fl_nsub, fl_msub, fl_nle, fl_nlt, fl_neq, fl_nclamp, fl_nin, fl_ltT, fl_ltF, fl_leT, fl_leF, fl_eqT, fl_eqF, decide_true, decide_false, Bool.true_and, Bool.and_true, Bool.false_and, Bool.and_false, if_true, if_false, Bool.false_eq_true, Option.isSome_some, Option.getD_some, not_true_eq_false, not_false_eq_true, Option.toList_some, Option.toList_none, List.cons_append, List.nil_append, e164, e96, e130, e141, rf, fbC_165_5, fbC_165_21, fbC_165_47, fbP_165_10, fbP_165_18, fbP_165_27, fbP_165_37]
    · rw [if_pos c0] at e164
      rw [if_neg c1] at e96
      rw [if_neg (fun z => c1 z.2)]
      refine ⟨_, ?_, q0⟩
      clear w w1 m m0
      rw [fbE_165]
      simp (disch := omega) only [fl_k_wl, fl_r_wl, fl_i_wl, fl_l_wl, fl_1_wl, fl_k_wi, fl_r_wi, fl_l_wi, fl_1_wi, fl_i_wi, fl_k_si, fl_r_si, fl_l_si, fl_k_sl, fl_r_sl, fl_i_sl, fl_up_self, fl_up_ne, fl_si_wi, fl_sl_wl, fl_wi_wi, fl_wl_wl, hg.1, hg.2, fl_KM, fl_RM, fl_lit, fl_nadd, fl_nmul, fl_ndiv, fl_nsub, fl_msub, fl_nle, fl_nlt, fl_neq, fl_nclamp, fl_nin, fl_ltT, fl_ltF, fl_leT, fl_leF, fl_eqT, fl_eqF, decide_true, decide_false, Bool.true_and, Bool.and_true, Bool.false_and, Bool.and_false, if_true, if_false, Bool.false_eq_true, Option.isSome_some, Option.getD_some, not_true_eq_false, not_false_eq_true, Option.toList_some, Option.toList_none, List.cons_append, List.nil_append, e164, e96, e130, fbC_165_5, fbC_165_21, fbC_165_47, fbP_165_10, fbP_165_18, fbP_165_27, fbP_165_37]
  · rw [if_neg c0] at e164
    rw [if_neg (fun z => c0 z.1)]
    refine ⟨_, ?_, q0⟩
    clear w w1 m m0
    rw [fbE_165]
    simp (disch := omega) only [fl_k_wl, fl_r_wl, fl_i_wl, fl_l_wl, fl_1_wl, fl_k_wi, fl_r_wi, fl_l_wi, fl_1_wi, fl_i_wi, fl_k_si, fl_r_si, fl_l_si, fl_k_sl, fl_r_sl, fl_i_sl, fl_up_self, fl_up_ne, fl_si_wi, fl_sl_wl, fl_wi_wi, fl_wl_wl, hg.1, hg.2, fl_KM, fl_RM, fl_lit, fl_nadd, fl_nmul, fl_ndiv, fl_nsub, fl_msub, fl_nle, fl_nlt, fl_neq, fl_nclamp, fl_nin, fl_ltT, fl_ltF, fl_leT, fl_leF, fl_eqT, fl_eqF, decide_true, decide_false, Bool.true_and, Bool.and_true, Bool.false_and, Bool.and_false, if_true, if_false, Bool.false_eq_true, Option.isSome_some, Option.getD_some, not_true_eq_false, not_false_eq_true, Option.toList_some, Option.toList_none, List.cons_append, List.nil_append, e164, fbC_165_5, fbC_165_21, fbC_165_47, fbP_165_10, fbP_165_18, fbP_165_27, fbP_165_37]
theorem fo_faulty (I : fl_Inv k0 c h) (p0 p1 : Int32) : fl_both k0 c 163 165 [.int p0, .int p1] [.int p0, .int p1] h := by
  obtain ⟨g, g1, g2, b1, b2, s, s1, s2, iG⟩ := I.2.2.2.2.2
  obtain ⟨h2, e, q⟩ := fo_faulty_b I.1 iG.2.1 iG.1 p0 p1
  exact ⟨_, h, h2, fo_faulty_a I.1 iG.1 iG.2.2.2.1 p0 p1, e, fl_Inv_qt I q⟩
end
