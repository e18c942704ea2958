/-! when -/
theorem fl_hb_i2l (x : Int32) {c : Nat} (hc : c < 64) : fl_hb (Int32.toInt64 x) c = if c < 32 then fl_hi x c else fl_hi x 31 := by
  unfold fl_hb fl_hi
  rw [Int32.toBitVec_toInt64, BitVec.getLsbD_signExtend, decide_eq_true hc, Bool.true_and]
  by_cases h : c < 32
  · rw [if_pos h, if_pos h]
  · rw [if_neg h, if_neg h, BitVec.msb_eq_getLsbD_last]
theorem fl_bi_bo {q : Nat → Bool} {ln : Nat → Nat} {n : Nat} (h : ∀ i, i < n → ln i < 31) : Int32.toInt64 (fl_bi q ln n) = fl_bo (fun j => if q j = true then 1 <<< (Int32.toInt64 (Int32.ofNat (ln j)) &&& 63) else 0) n := by
  have e := fl_bo_B (F := fun j => if q j = true then 1 <<< (Int32.toInt64 (Int32.ofNat (ln j)) &&& 63) else 0) (q := fun j c => q j && decide (c = ln j)) (n := n) (fun j hj => by
    have := h j hj
    rcases Bool.eq_false_or_eq_true (q j) with z | z
    · simp only [z, if_true, Bool.true_and]
      exact fl_B_bit (by omega)
    · simp only [z, Bool.false_eq_true, if_false, Bool.false_and]
      exact fl_B_0)
  rw [e]
  refine fl_B_of fun c hc => ?_
  rw [fl_hb_i2l _ hc]
  by_cases l : c < 32
  · rw [if_pos l, fl_hi_bi l (fun i hi => by have := h i hi; omega)]
  · rw [if_neg l, fl_hi_bi (by omega) (fun i hi => by have := h i hi; omega)]
    refine fl_any_congr fun i hi => ?_
    have := h i hi
    rw [decide_eq_false (show ¬ 31 = ln i by omega), decide_eq_false (show ¬ c = ln i by omega)]
section
variable {k0 : Nat → Nat × Nat} {h : fl_H} {c : Nat × Nat × Nat × Bool}
theorem fl_sha_shl {g : Nat → Nat} (w : fl_wf g) {f t : Nat} {ps : Nat → Nat} : Int32.toInt64 (fl_sha g f ps t) = fl_shl g f ps t := by
  have w1 := w.1
  exact fl_bi_bo (fun i hi => by
    have := w.2.2.2.2.2.1 i hi
    omega)
/-- what when answers, and tells -/
def fl_wa (g : Nat → Nat) (p0 : Int32) : Int32 := if fl_in p0 (2 * (g 0 + g 2)) = true then (if fl_any (fl_shn g p0.toNatClampNeg (fl_ps g)) (g 76) = true then Int32.ofNat (fl_frst (fl_shn g p0.toNatClampNeg (fl_ps g)) (g 76)) else -Int32.ofNat 2) else -Int32.ofNat 1
def fl_wt (g : Nat → Nat) (p0 : Int32) : Bool := fl_in p0 (2 * (g 0 + g 2)) && fl_any (fl_shn g p0.toNatClampNeg (fl_ps g)) (g 76)
def fl_wsl (g : Nat → Nat) (p0 : Int32) : Int64 := fl_shl g p0.toNatClampNeg (fl_ps g) (fl_frst (fl_shn g p0.toNatClampNeg (fl_ps g)) (g 76))
theorem fo_when_a {g : Nat → Nat} {s : Int64} (hg : fl_g k0 h) (w : fl_wf g) (d : fl_rn h 27 g s) (e1 : fl_i h 4 1 = Int32.ofNat 6) (p0 : Int32) : fl_cl fl_C 172 [.ref 0, .int p0] h = some (some (some (.int (fl_wa g p0))), if fl_wt g p0 = true then fl_tc6 h 0 (fl_wsl g p0) else h) := by
  have O := fl_o27 (k0 := k0)
  have w1 := w.1
  have e162 := fc_162 hg O.2.1 w d.1 p0
  have o27 : fl_KK k0 27 = (1, 7) ∧ fl_RR 27 0 = some (27 + 1) ∧ fl_RR 27 8 = some (27 + 35) ∧ fl_RR 27 9 = some (27 + 37) := ⟨O.1.1, O.1.2.1, O.1.2.2.2.2.1, O.1.2.2.2.2.2⟩
  have o28 : fl_KK k0 (27 + 1) = (1, 4) := O.2.1.1.1
  have o62 : fl_KK k0 (27 + 35) = (1, 1) := O.2.2.2.2.1.1
  have o64 : fl_KK k0 (27 + 37) = (1, 1) := O.2.2.2.2.2.1
  unfold fl_wa fl_wt
  by_cases c0 : fl_in p0 (2 * (g 0 + g 2)) = true
  · rw [if_pos c0] at e162 ⊢
    rw [c0, Bool.true_and]
    obtain ⟨f, hf, rfl⟩ := fl_in_ex c0
    have f64 : f < 64 := by omega
    have f63 : f < 2147483648 := by omega
    unfold fl_wsl
    rw [fl_nclamp f63]
    have e120 := fc_120 (h := h) (fl_l h 27 5) f64
    rw [d.2.2.1.1, fl_hb_B _ f64, decide_eq_true hf, Bool.true_and] at e120
    have dd := d.2.2.1.1
    by_cases c1 : fl_any (fl_shn g f (fl_ps g)) (g 76) = true
    · rw [if_pos c1] at e120 ⊢
      rw [if_pos c1]
      have dv := d.2.2.2.2.1 f hf c1
      have ea := fc_at O.2.2.2.2.2 hg f64
      rw [dv.2] at ea
      have t1 := fc_tell hg e1 (fl_shl g f (fl_ps g) (fl_frst (fl_shn g f (fl_ps g)) (g 76)))
      have qt := fl_tc6_qo (h := h) (n := 0) (x := fl_shl g f (fl_ps g) (fl_frst (fl_shn g f (fl_ps g)) (g 76)))
      have hg1 := fl_qo_g hg qt
      have ei := fc_int O.2.2.2.2.1 hg1 f64
      rw [qt.2.2.2.1 (27 + 36) (by omega) (by omega), dv.1, fl_o32] at ei
      clear w w1 d dv qt
      generalize fl_tc6 h 0 (fl_shl g f (fl_ps g) (fl_frst (fl_shn g f (fl_ps g)) (g 76))) = H1 at t1 hg1 ei ⊢
      rw [fbE_172]
      simp (disch := omega) only [hg.1, hg.2, hg1.1, hg1.2, fl_KF, fl_RF, o27, o28, o62, o64, fl_lit, fl_nadd, fl_nmul, fl_ndiv, fl_nsub, fl_msub, fl_nle, fl_nlt, fl_neq, fl_nclamp, fl_nin, fl_ltT, fl_ltF, fl_leT, fl_leF, fl_eqT, fl_eqF, decide_true, decide_false, Bool.true_and, Bool.and_true, Bool.false_and, Bool.and_false, if_true, if_false, Bool.false_eq_true, Option.isSome_some, Option.getD_some, not_true_eq_false, not_false_eq_true, Option.toList_some, Option.toList_none, List.cons_append, List.nil_append, e162, dd, e120, ea, t1, ei, fbP_172_11, fbP_172_27, fbP_172_45, fbP_172_48, fbP_172_59]
    · rw [if_neg c1] at e120 ⊢
      rw [if_neg c1]
      clear w w1 d
      rw [fbE_172]
      simp (disch := omega) only [hg.1, hg.2, fl_KF, fl_RF, o27, o28, fl_lit, fl_nadd, fl_nmul, fl_ndiv, fl_nsub, fl_msub, fl_nle, fl_nlt, fl_neq, fl_nclamp, fl_nin, fl_ltT, fl_ltF, fl_leT, fl_leF, fl_eqT, fl_eqF, decide_true, decide_false, Bool.true_and, Bool.and_true, Bool.false_and, Bool.and_false, if_true, if_false, Bool.false_eq_true, Option.isSome_some, Option.getD_some, not_true_eq_false, not_false_eq_true, Option.toList_some, Option.toList_none, List.cons_append, List.nil_append, e162, dd, e120, fbP_172_11, fbP_172_27, fbP_172_45, fbP_172_48, fbP_172_59]
  · rw [if_neg c0] at e162 ⊢
    rw [if_neg (fun z => c0 (Bool.and_eq_true_iff.mp z).1)]
    clear w w1 d
    rw [fbE_172]
    simp (disch := omega) only [hg.1, hg.2, fl_KF, fl_RF, o27, o28, fl_lit, fl_nadd, fl_nmul, fl_ndiv, fl_nsub, fl_msub, fl_nle, fl_nlt, fl_neq, fl_nclamp, fl_nin, fl_ltT, fl_ltF, fl_leT, fl_leF, fl_eqT, fl_eqF, decide_true, decide_false, Bool.true_and, Bool.and_true, Bool.false_and, Bool.and_false, if_true, if_false, Bool.false_eq_true, Option.isSome_some, Option.getD_some, not_true_eq_false, not_false_eq_true, Option.toList_some, Option.toList_none, List.cons_append, List.nil_append, e162, fbP_172_11, fbP_172_27, fbP_172_45, fbP_172_48, fbP_172_59]
theorem fo_when_b {g : Nat → Nat} (hg : fl_g k0 h) (m : fl_mm h g) (w : fl_wf g) (p0 : Int32) : ∃ h2 y, fl_cl fl_C 173 [.ref 259, .int p0] h = some (some (some (.int (fl_wa g p0))), h2) ∧ fl_qt h y ∧ h2 = if fl_wt g p0 = true then fl_ae (fl_a0 y) 0 (fl_wsl g p0) else y := by
  have w1 := w.1
  have w7 : g 76 ≤ 24 := by omega
  have w0 : g 0 ≤ 12 := by omega
  have w2 : g 2 ≤ 20 := by omega
  have q0 := fl_qt_0 (h := h) (x := Int32.ofNat 0)
  have hg0 := fl_qo_g hg (fl_qt_qo q0)
  have m0 := fl_qo_mm m (fl_qt_qo q0)
  have e164 := fr_164 hg0 m0 w0 w2 p0
  unfold fl_wa fl_wt
  by_cases c0 : fl_in p0 (2 * (g 0 + g 2)) = true
  · rw [if_pos c0] at e164 ⊢
    rw [c0, Bool.true_and]
    obtain ⟨r, y, e141, rfl, ay⟩ := fr_141 hg0 m0 w
    obtain ⟨f, hf, rfl⟩ := fl_in_ex c0
    have f64 : f < 64 := by omega
    have f63 : f < 2147483648 := by omega
    unfold fl_wsl
    rw [fl_nclamp f63]
    have qy := fl_qt_tr q0 (fl_qt_all ay)
    have gy := fl_qo_g hg (fl_qt_qo qy)
    have rf := ay.2.2.2.2 f hf
    have r1 : fl_i y 271 f = fl_oi (fl_any (fl_shn g f (fl_ps g)) (g 76)) (fl_frst (fl_shn g f (fl_ps g)) (g 76)) := rf.1
    have r2 : fl_i y 272 f = if fl_any (fl_shn g f (fl_ps g)) (g 76) = true then fl_sha g f (fl_ps g) (fl_frst (fl_shn g f (fl_ps g)) (g 76)) else Int32.ofNat 0 := rf.2.1
    have fl := fl_frst_le (q := fl_shn g f (fl_ps g)) (g 76)
    have hz := fl_oi_le (b := fl_any (fl_shn g f (fl_ps g)) (g 76)) (t := fl_frst (fl_shn g f (fl_ps g)) (g 76)) (by omega)
    refine ⟨_, y, ?_, qy, rfl⟩
    by_cases c1 : fl_any (fl_shn g f (fl_ps g)) (g 76) = true
    · rw [if_pos c1, if_pos c1]
      rw [c1] at r1 hz
      rw [if_pos c1] at r2
      have s64 := fl_sha_shl (g := g) w (f := f) (ps := fl_ps g) (t := fl_frst (fl_shn g f (fl_ps g)) (g 76))
      have gz := fl_qo_g hg (fl_qo_tr (fl_qt_qo qy) (fl_a0_qo (h := y)))
      have t0 : fl_cl fl_C 143 [.ref 259, .long (fl_shl g f (fl_ps g) (fl_frst (fl_shn g f (fl_ps g)) (g 76)))] (fl_a0 y) = some (some none, fl_ae (fl_a0 y) 0 (fl_shl g f (fl_ps g) (fl_frst (fl_shn g f (fl_ps g)) (g 76)))) := fr_143 gz (by omega) fl_a0_n _
      have g1 := fl_qo_g gz (fl_ae_qo (h := fl_a0 y) (n := 0) (x := fl_shl g f (fl_ps g) (fl_frst (fl_shn g f (fl_ps g)) (g 76))))
      have za : fl_i (fl_a0 y) 272 = fl_i y 272 := by unfold fl_a0; rw [fl_i_wi, if_neg (by omega)]
      have zb : fl_i (fl_ae (fl_a0 y) 0 (fl_shl g f (fl_ps g) (fl_frst (fl_shn g f (fl_ps g)) (g 76)))) 271 f = Int32.ofNat (fl_frst (fl_shn g f (fl_ps g)) (g 76)) := by
        unfold fl_ae
        rw [fl_i_wi, if_neg (by omega), fl_i_wl]
        unfold fl_a0
        rw [fl_i_wi, if_neg (by omega), r1]
        rfl
      have ea : fl_wi y 259 (fl_up (fl_i y 259) 1 (Int32.ofNat 0)) = fl_a0 y := rfl
      generalize fl_ae (fl_a0 y) 0 (fl_shl g f (fl_ps g) (fl_frst (fl_shn g f (fl_ps g)) (g 76))) = H1 at t0 g1 zb ⊢
      clear w w1 m m0 ay rf qy q0
      rw [fbE_173]
      simp (disch := omega) only [fl_k_wl, fl_r_wl, fl_i_wl, fl_l_wl, fl_1_wl, fl_k_wi, fl_r_wi, fl_l_wi, fl_1_wi, fl_i_wi, fl_k_si, fl_r_si, fl_l_si, fl_k_sl, fl_r_sl, fl_i_sl, fl_up_self, fl_up_ne, fl_si_wi, fl_sl_wl, fl_wi_wi, fl_wl_wl, hg.1, hg.2, gy.1, gy.2, gz.1, gz.2, g1.1, g1.2, fl_KM, fl_RM, fl_lit, fl_nadd, fl_nmul, fl_ndiv, fl_nsub, fl_msub, fl_nle, fl_nlt, fl_neq, fl_nclamp, fl_nin, fl_ltT, fl_ltF, fl_leT, fl_leF, fl_eqT, fl_eqF, decide_true, decide_false, Bool.true_and, Bool.and_true, Bool.false_and, Bool.and_false, if_true, if_false, Bool.false_eq_true, Option.isSome_some, Option.getD_some, not_true_eq_false, not_false_eq_true, Option.toList_some, Option.toList_none, List.cons_append, List.nil_append, e164, e141, r1, hz, Bool.true_eq_false, ea, za, r2, s64, t0, zb, fbC_173_5, fbC_173_36, fbP_173_10, fbP_173_47, fbP_173_19]
    · rw [if_neg c1, if_neg c1]
      have c1' : fl_any (fl_shn g f (fl_ps g)) (g 76) = false := by simpa using c1
      rw [c1'] at r1 hz
      clear w w1 m m0 ay rf qy q0
      rw [fbE_173]
      simp (disch := omega) only [fl_k_wl, fl_r_wl, fl_i_wl, fl_l_wl, fl_1_wl, fl_k_wi, fl_r_wi, fl_l_wi, fl_1_wi, fl_i_wi, fl_k_si, fl_r_si, fl_l_si, fl_k_sl, fl_r_sl, fl_i_sl, fl_up_self, fl_up_ne, fl_si_wi, fl_sl_wl, fl_wi_wi, fl_wl_wl, hg.1, hg.2, gy.1, gy.2, fl_KM, fl_RM, fl_lit, fl_nadd, fl_nmul, fl_ndiv, fl_nsub, fl_msub, fl_nle, fl_nlt, fl_neq, fl_nclamp, fl_nin, fl_ltT, fl_ltF, fl_leT, fl_leF, fl_eqT, fl_eqF, decide_true, decide_false, Bool.true_and, Bool.and_true, Bool.false_and, Bool.and_false, if_true, if_false, Bool.false_eq_true, Option.isSome_some, Option.getD_some, not_true_eq_false, not_false_eq_true, Option.toList_some, Option.toList_none, List.cons_append, List.nil_append, e164, e141, r1, hz, fbC_173_5, fbC_173_36, fbP_173_10, fbP_173_47, fbP_173_19]
  · rw [if_neg c0] at e164 ⊢
    refine ⟨_, _, ?_, q0, rfl⟩
    rw [if_neg (fun z => c0 (Bool.and_eq_true_iff.mp z).1)]
    clear w w1 m m0
    rw [fbE_173]
    simp (disch := omega) only [fl_k_wl, fl_r_wl, fl_i_wl, fl_l_wl, fl_1_wl, fl_k_wi, fl_r_wi, fl_l_wi, fl_1_wi, fl_i_wi, fl_k_si, fl_r_si, fl_l_si, fl_k_sl, fl_r_sl, fl_i_sl, fl_up_self, fl_up_ne, fl_si_wi, fl_sl_wl, fl_wi_wi, fl_wl_wl, hg.1, hg.2, fl_KM, fl_RM, fl_lit, fl_nadd, fl_nmul, fl_ndiv, fl_nsub, fl_msub, fl_nle, fl_nlt, fl_neq, fl_nclamp, fl_nin, fl_ltT, fl_ltF, fl_leT, fl_leF, fl_eqT, fl_eqF, decide_true, decide_false, Bool.true_and, Bool.and_true, Bool.false_and, Bool.and_false, if_true, if_false, Bool.false_eq_true, Option.isSome_some, Option.getD_some, not_true_eq_false, not_false_eq_true, Option.toList_some, Option.toList_none, List.cons_append, List.nil_append, e164, fbC_173_5, fbC_173_36, fbP_173_10, fbP_173_47, fbP_173_19]
theorem fo_when (I : fl_Inv k0 c h) (p0 : Int32) : fl_both k0 c 172 173 [.int p0] [.int p0] h := by
  obtain ⟨rn, rv, iO⟩ := I.2.2.2.1
  obtain ⟨g, g1, g2, b1, b2, s, s1, s2, iG⟩ := I.2.2.2.2.2
  have a := fo_when_a I.1 iG.1 iG.2.2.2.1 iO.2.2.1 p0
  by_cases c1 : fl_wt g p0 = true
  · rw [if_pos c1] at a
    have q1 := fl_tc6_qo (h := h) (n := 0) (x := fl_wsl g p0)
    obtain ⟨h2, y, e, q, eh⟩ := fo_when_b (fl_qo_g I.1 q1) (fl_qo_mm iG.2.1 q1) iG.1 p0
    rw [if_pos c1] at eh
    subst eh
    refine ⟨_, _, _, a, e, ?_⟩
    refine fl_Inv_qo I (fl_qo_tr q1 (fl_qo_tr (fl_qt_qo q) (fl_qo_tr fl_a0_qo fl_ae_qo))) (n := 1) (rv := fun _ => fl_wsl g p0) (by omega) fl_ae_n ?_ (fun j hj => ?_)
    · rw [fl_ae_4]; unfold fl_a0; rw [fl_i_wi, if_neg (by omega), q.2.2.2.2 4 2 (by omega), fl_tc6_n]
    · have : j = 0 := by omega
      subst this
      rw [fl_ae_l, fl_up_self, fl_ae_l2]
      unfold fl_a0
      rw [fl_l_wi, q.2.2.2.1, fl_tc6_l, fl_up_self]
      exact ⟨rfl, rfl⟩
  · rw [if_neg c1] at a
    obtain ⟨h2, y, e, q, eh⟩ := fo_when_b I.1 iG.2.1 iG.1 p0
    rw [if_neg c1] at eh
    subst eh
    exact ⟨_, h, _, a, e, fl_Inv_qt I q⟩
end
