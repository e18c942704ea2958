/-! count, the reference's side -/
section
variable {k0 : Nat → Nat × Nat} {h h' : fl_H} {c : Nat × Nat × Nat × Bool}
theorem fr_259 {g : Nat → Nat} (hg : fl_g k0 h) (m : fl_mm h g) (w : fl_wf g) : ∃ y, fl_cl fl_C 259 [.ref 259] h = some (some (some (.int (Int32.ofNat (fl_cnt (fl_hb (fl_bs (fun f => fl_any (fl_shn g f (fl_ps g)) (g 76)) (2 * (g 0 + g 2)))) 64)))), y) ∧ fl_qt h y := by
  obtain ⟨r, y, e141, rfl, ay⟩ := fr_141 hg m w
  have qy := fl_qt_all ay
  have gy := fl_qo_g hg (fl_qt_qo qy)
  have my := fl_qo_mm m (fl_qt_qo qy)
  have w7 : g 76 ≤ 24 := w.1.2.2.2.2.2.2.2.1
  have e142 := fr_142 gy my w (q := fun f => fl_any (fl_shn g f (fl_ps g)) (g 76)) (t := fun f => fl_frst (fl_shn g f (fl_ps g)) (g 76)) (fun f => by have := fl_frst_le (q := fl_shn g f (fl_ps g)) (g 76); omega) (fun f hf => (ay.2.2.2.2 f hf).1)
  have b := fr_144 (h := y) (fl_bs (fun f => fl_any (fl_shn g f (fl_ps g)) (g 76)) (2 * (g 0 + g 2)))
  refine ⟨y, ?_, qy⟩
  clear w m ay my qy
  rw [fbE_259]
  simp (disch := omega) only [hg.1, gy.1, fl_KM, fl_RM, fl_lit, fl_nadd, fl_nmul, fl_ndiv, fl_nsub, fl_msub, fl_nle, fl_nlt, fl_neq, fl_nclamp, fl_nin, fl_ltT, fl_ltF, fl_leT, fl_leF, fl_eqT, fl_eqF, decide_true, decide_false, Bool.true_and, Bool.and_true, Bool.false_and, Bool.and_false, if_true, if_false, Bool.false_eq_true, Option.isSome_some, Option.getD_some, not_true_eq_false, not_false_eq_true, Option.toList_some, Option.toList_none, List.cons_append, List.nil_append, e141, fbP_259_4, e142, fbP_259_8, b, fbP_259_11]
theorem fl_vfacts {y : fl_H} {g : Nat → Nat} (w : fl_wf g) (hn : 0 < g 76) (ay : fl_all2 h y g) {k : Nat} (hk : k < g 0) : ∀ f, f < 2 * (g 0 + g 2) → fl_i y 274 (12 * f + k) = Int32.ofNat (fl_cvn g f k) ∧ fl_i y 273 f = fl_oi (fl_any (fl_dr g f (fl_ps g)) (g 76)) (fl_frst (fl_dr g f (fl_ps g)) (g 76)) ∧ fl_cvn g f k ≤ 2 ∧ (fl_any (fl_dr g f (fl_ps g)) (g 76) = true → fl_frst (fl_dr g f (fl_ps g)) (g 76) < g 76 ∧ (fl_frst (fl_dr g f (fl_ps g)) (g 76) + 1 < g 76 → fl_cvn g f k = fl_vl g 64 (fl_ps g) (g 76 - 1) k)) := by
  intro f hf
  have rf := ay.2.2.2.2 f hf
  have cv : fl_cvn g f = fl_fvl g f (fl_ps g) (g 76) := if_pos hf
  refine ⟨?_, rf.2.2.1, fl_cvn_le w hn f k, fun z => ⟨(fl_frst_sp z).1, fun l => ?_⟩⟩
  · rw [cv]; exact rf.2.2.2.1 hn k hk
  · rw [cv]
    unfold fl_fvl fl_aw
    rw [z, decide_eq_true l]
    rfl
theorem fr_260 {g : Nat → Nat} (hg : fl_g k0 h) (m : fl_mm h g) (w : fl_wf g) : ∃ y, fl_cl fl_C 260 [.ref 259] h = some (some (some (.int (Int32.ofNat (if g 76 = 0 then 0 else fl_lsm g (g 0))))), y) ∧ fl_qt h y := by
  have w1 := w.1
  have w7 : g 76 ≤ 24 := by omega
  have w0 : g 0 ≤ 12 := by omega
  have w2 : g 2 ≤ 20 := by omega
  have e130 := fr_130 hg m
  by_cases z : g 76 = 0
  · refine ⟨h, ?_, ⟨rfl, rfl, rfl, rfl, fun _ _ _ => rfl⟩⟩
    rw [if_pos z]
    rw [z] at e130
    clear m w w1
    rw [fbE_260]
    simp (disch := omega) only [hg.1, fl_KM, fl_RM, fl_lit, fl_nadd, fl_nmul, fl_ndiv, fl_nsub, fl_msub, fl_nle, fl_nlt, fl_neq, fl_nclamp, fl_nin, fl_ltT, fl_ltF, fl_leT, fl_leF, fl_eqT, fl_eqF, decide_true, decide_false, Bool.true_and, Bool.and_true, Bool.false_and, Bool.and_false, if_true, if_false, Bool.false_eq_true, Option.isSome_some, Option.getD_some, not_true_eq_false, not_false_eq_true, Option.toList_some, Option.toList_none, List.cons_append, List.nil_append, e130, fbP_260_4]
  · rw [if_neg z]
    have hn : 0 < g 76 := by omega
    obtain ⟨r, y, e141, rfl, ay⟩ := fr_141 hg m w
    have qy := fl_qt_all ay
    have gy := fl_qo_g hg (fl_qt_qo qy)
    have my := fl_qo_mm m (fl_qt_qo qy)
    have e160 : ∀ k, k < g 0 → fl_cl fl_C 160 [.ref 259, .int (Int32.ofNat k), .int (Int32.ofNat 0)] y = some (some (some (.long (fl_vs g false k))), y) := fun k hk => by
      have gv := fl_vl_le2 w hn k
      have := fr_160 gy my w0 w2 hn w7 hk ay.2.2.1.2.1 gv (ay.2.2.2.1.1 (g 76 - 1) (by omega) k hk) false (fun f => fl_cvn g f k) (fun f => fl_frst (fl_dr g f (fl_ps g)) (g 76)) (fun f => fl_any (fl_dr g f (fl_ps g)) (g 76)) (fl_vfacts w hn ay hk)
      rw [Bool.toNat_false, fl_bs_F (by omega)] at this
      exact this
    have e95 := fr_95 gy my
    refine ⟨y, ?_, qy⟩
    clear my ay qy m w w1
    have lp := fl_iter (fun k => fl_Rn fl_C 260 17 [some (.ref 259), some (.int (Int32.ofNat (fl_lsm g k))), some (.int (Int32.ofNat k))] [] y) (g 0) (by
      intro k hk
      try dsimp only
      have e := e160 k hk
      have b := fr_144 (h := y) (fl_vs g false k)
      rw [fl_lsm]
      clear e160
      rw [fbC_260_17]
      simp (disch := omega) only [gy.1, fl_KM, fl_RM, fl_lit, fl_nadd, fl_nmul, fl_ndiv, fl_nsub, fl_msub, fl_nle, fl_nlt, fl_neq, fl_nclamp, fl_nin, fl_ltT, fl_ltF, fl_leT, fl_leF, fl_eqT, fl_eqF, decide_true, decide_false, Bool.true_and, Bool.and_true, Bool.false_and, Bool.and_false, if_true, if_false, Bool.false_eq_true, Option.isSome_some, Option.getD_some, not_true_eq_false, not_false_eq_true, Option.toList_some, Option.toList_none, List.cons_append, List.nil_append, e95, fbP_260_22, e, fbP_260_32, b, fbP_260_35])
    clear e160
    have fin : fl_Rn fl_C 260 17 [some (.ref 259), some (.int (Int32.ofNat (fl_lsm g (g 0)))), some (.int (Int32.ofNat (g 0)))] [] y = some (some (some (.int (Int32.ofNat (fl_lsm g (g 0))))), y) := by
      rw [fbC_260_17]
      simp (disch := omega) only [gy.1, fl_KM, fl_RM, fl_lit, fl_nadd, fl_nmul, fl_ndiv, fl_nsub, fl_msub, fl_nle, fl_nlt, fl_neq, fl_nclamp, fl_nin, fl_ltT, fl_ltF, fl_leT, fl_leF, fl_eqT, fl_eqF, decide_true, decide_false, Bool.true_and, Bool.and_true, Bool.false_and, Bool.and_false, if_true, if_false, Bool.false_eq_true, Option.isSome_some, Option.getD_some, not_true_eq_false, not_false_eq_true, Option.toList_some, Option.toList_none, List.cons_append, List.nil_append, e95, fbP_260_22]
    have lp' := lp.trans fin
    clear lp fin
    rw [fbE_260]
    simp (disch := omega) only [hg.1, fl_KM, fl_RM, fl_lit, fl_nadd, fl_nmul, fl_ndiv, fl_nsub, fl_msub, fl_nle, fl_nlt, fl_neq, fl_nclamp, fl_nin, fl_ltT, fl_ltF, fl_leT, fl_leF, fl_eqT, fl_eqF, decide_true, decide_false, Bool.true_and, Bool.and_true, Bool.false_and, Bool.and_false, if_true, if_false, Bool.false_eq_true, Option.isSome_some, Option.getD_some, not_true_eq_false, not_false_eq_true, Option.toList_some, Option.toList_none, List.cons_append, List.nil_append, e130, fbP_260_4, e141, fbP_260_13]
    exact lp'
theorem fo_count_b {g : Nat → Nat} {s : Int64} (hg : fl_g k0 h) (m : fl_mm h g) (w : fl_wf g) (hs : fl_l h 263 0 = s) {tn rn : Nat} (ht : tn ≤ 80) (hr : rn ≤ 6) (e1 : fl_i h 259 4 = Int32.ofNat tn) (e4 : fl_i h 259 1 = Int32.ofNat rn) (p : Int32) : ∃ y, fl_cl fl_C 261 [.ref 259, .int p] h = some (some (some (.int (if fl_in p 13 = true then fl_cnv g s tn rn p.toNatClampNeg else -1))), y) ∧ fl_qt h y := by
  have w1 := w.1
  have w0 : g 0 ≤ 12 := by omega
  have q0 := fl_qt_0 (h := h) (x := Int32.ofNat 0)
  have hg0 := fl_qo_g hg (fl_qt_qo q0)
  have m0 := fl_qo_mm m (fl_qt_qo q0)
  have e0 : fl_cl fl_C 261 [.ref 259, .int p] h = fl_Rn fl_C 261 5 [some (.ref 259), some (.int p)] [] (fl_wi h 259 (fl_up (fl_i h 259) 0 (Int32.ofNat 0))) := by
    rw [fbE_261]
    simp (disch := omega) only [fl_k_wl, fl_r_wl, fl_i_wl, fl_l_wl, fl_1_wl, fl_k_wi, fl_r_wi, fl_l_wi, fl_1_wi, fl_i_wi, fl_k_si, fl_r_si, fl_l_si, fl_k_sl, fl_r_sl, fl_i_sl, fl_up_self, fl_up_ne, fl_si_wi, fl_sl_wl, fl_wi_wi, fl_wl_wl, hg.1, fl_KM, fl_RM, fl_lit, fl_nadd, fl_nmul, fl_ndiv, fl_nsub, fl_msub, fl_nle, fl_nlt, fl_neq, fl_nclamp, fl_nin, fl_ltT, fl_ltF, fl_leT, fl_leF, fl_eqT, fl_eqF, decide_true, decide_false, Bool.true_and, Bool.and_true, Bool.false_and, Bool.and_false, if_true, if_false, Bool.false_eq_true, Option.isSome_some, Option.getD_some, not_true_eq_false, not_false_eq_true, Option.toList_some, Option.toList_none, List.cons_append, List.nil_append]
  have f1 : fl_i (fl_wi h 259 (fl_up (fl_i h 259) 0 (Int32.ofNat 0))) 259 4 = Int32.ofNat tn := by rw [fl_i_wi, if_pos rfl, fl_up_ne (by omega)]; exact e1
  have f4 : fl_i (fl_wi h 259 (fl_up (fl_i h 259) 0 (Int32.ofNat 0))) 259 1 = Int32.ofNat rn := by rw [fl_i_wi, if_pos rfl, fl_up_ne (by omega)]; exact e4
  have fs : fl_l (fl_wi h 259 (fl_up (fl_i h 259) 0 (Int32.ofNat 0))) 263 0 = s := by rw [fl_l_wi]; exact hs
  rw [e0]
  clear e0 e1 e4 hs m hg
  generalize fl_wi h 259 (fl_up (fl_i h 259) 0 (Int32.ofNat 0)) = H at *
  suffices ∃ y, fl_Rn fl_C 261 5 [some (.ref 259), some (.int p)] [] H = some (some (some (.int (if fl_in p 13 = true then fl_cnv g s tn rn p.toNatClampNeg else -1))), y) ∧ fl_qt H y by
    obtain ⟨y, e, q⟩ := this
    exact ⟨y, e, fl_qt_tr q0 q⟩
  clear q0
  have qr : fl_qt H H := ⟨rfl, rfl, rfl, rfl, fun _ _ _ => rfl⟩
  by_cases c0 : fl_in p 13 = true
  · rw [if_pos c0]
    obtain ⟨j, hj, rfl⟩ := fl_in_ex c0
    rw [fl_nclamp (show j < 2147483648 by omega)]
    have e95 := fr_95 hg0 m0
    have e129 := fr_129 hg0 m0
    have e130 := fr_130 hg0 m0
    have e88 := fr_88 hg0 m0
    have e258 := fr_258 hg0 m0 w.2.2.2.2.2.2.2.2.1 w0
    have m2 := m0 2 (by omega)
    have m3 := m0 3 (by omega)
    have m77 := m0 77 (by omega)
    have b7 := fr_144 (h := H) s
    obtain ⟨y7, e259, qy7⟩ := fr_259 hg0 m0 w
    obtain ⟨y10, e260, qy10⟩ := fr_260 hg0 m0 w
    clear w w1 m0 c0
    rw [fbC_261_5]
    rcases (show j = 0 ∨ j = 1 ∨ j = 2 ∨ j = 3 ∨ j = 4 ∨ j = 5 ∨ j = 6 ∨ j = 7 ∨ j = 8 ∨ j = 9 ∨ j = 10 ∨ j = 11 ∨ j = 12 by omega) with e | e | e | e | e | e | e | e | e | e | e | e | e <;> subst e
    · refine ⟨H, ?_, qr⟩; simp (disch := omega) only [hg0.1, hg0.2, fl_KM, fl_RM, fl_lit, fl_nadd, fl_nmul, fl_ndiv, fl_nsub, fl_msub, fl_nle, fl_nlt, fl_neq, fl_nclamp, fl_nin, fl_ltT, fl_ltF, fl_leT, fl_leF, fl_eqT, fl_eqF, decide_true, decide_false, Bool.true_and, Bool.and_true, Bool.false_and, Bool.and_false, if_true, if_false, Bool.false_eq_true, Option.isSome_some, Option.getD_some, not_true_eq_false, not_false_eq_true, Option.toList_some, Option.toList_none, List.cons_append, List.nil_append, e95, fbP_261_76]; rfl
    · refine ⟨H, ?_, qr⟩; simp (disch := omega) only [hg0.1, hg0.2, fl_KM, fl_RM, fl_lit, fl_nadd, fl_nmul, fl_ndiv, fl_nsub, fl_msub, fl_nle, fl_nlt, fl_neq, fl_nclamp, fl_nin, fl_ltT, fl_ltF, fl_leT, fl_leF, fl_eqT, fl_eqF, decide_true, decide_false, Bool.true_and, Bool.and_true, Bool.false_and, Bool.and_false, if_true, if_false, Bool.false_eq_true, Option.isSome_some, Option.getD_some, not_true_eq_false, not_false_eq_true, Option.toList_some, Option.toList_none, List.cons_append, List.nil_append, e129, fbP_261_81]; rfl
    · refine ⟨H, ?_, qr⟩; simp (disch := omega) only [hg0.1, hg0.2, fl_KM, fl_RM, fl_lit, fl_nadd, fl_nmul, fl_ndiv, fl_nsub, fl_msub, fl_nle, fl_nlt, fl_neq, fl_nclamp, fl_nin, fl_ltT, fl_ltF, fl_leT, fl_leF, fl_eqT, fl_eqF, decide_true, decide_false, Bool.true_and, Bool.and_true, Bool.false_and, Bool.and_false, if_true, if_false, Bool.false_eq_true, Option.isSome_some, Option.getD_some, not_true_eq_false, not_false_eq_true, Option.toList_some, Option.toList_none, List.cons_append, List.nil_append, e258, fbP_261_86]; rfl
    · refine ⟨H, ?_, qr⟩; simp (disch := omega) only [hg0.1, hg0.2, fl_KM, fl_RM, fl_lit, fl_nadd, fl_nmul, fl_ndiv, fl_nsub, fl_msub, fl_nle, fl_nlt, fl_neq, fl_nclamp, fl_nin, fl_ltT, fl_ltF, fl_leT, fl_leF, fl_eqT, fl_eqF, decide_true, decide_false, Bool.true_and, Bool.and_true, Bool.false_and, Bool.and_false, if_true, if_false, Bool.false_eq_true, Option.isSome_some, Option.getD_some, not_true_eq_false, not_false_eq_true, Option.toList_some, Option.toList_none, List.cons_append, List.nil_append, m2]; rfl
    · refine ⟨H, ?_, qr⟩; simp (disch := omega) only [hg0.1, hg0.2, fl_KM, fl_RM, fl_lit, fl_nadd, fl_nmul, fl_ndiv, fl_nsub, fl_msub, fl_nle, fl_nlt, fl_neq, fl_nclamp, fl_nin, fl_ltT, fl_ltF, fl_leT, fl_leF, fl_eqT, fl_eqF, decide_true, decide_false, Bool.true_and, Bool.and_true, Bool.false_and, Bool.and_false, if_true, if_false, Bool.false_eq_true, Option.isSome_some, Option.getD_some, not_true_eq_false, not_false_eq_true, Option.toList_some, Option.toList_none, List.cons_append, List.nil_append, m3]; rfl
    · refine ⟨H, ?_, qr⟩; simp (disch := omega) only [hg0.1, hg0.2, fl_KM, fl_RM, fl_lit, fl_nadd, fl_nmul, fl_ndiv, fl_nsub, fl_msub, fl_nle, fl_nlt, fl_neq, fl_nclamp, fl_nin, fl_ltT, fl_ltF, fl_leT, fl_leF, fl_eqT, fl_eqF, decide_true, decide_false, Bool.true_and, Bool.and_true, Bool.false_and, Bool.and_false, if_true, if_false, Bool.false_eq_true, Option.isSome_some, Option.getD_some, not_true_eq_false, not_false_eq_true, Option.toList_some, Option.toList_none, List.cons_append, List.nil_append, e88, fbP_261_105]; rfl
    · refine ⟨H, ?_, qr⟩; simp (disch := omega) only [hg0.1, hg0.2, fl_KM, fl_RM, fl_lit, fl_nadd, fl_nmul, fl_ndiv, fl_nsub, fl_msub, fl_nle, fl_nlt, fl_neq, fl_nclamp, fl_nin, fl_ltT, fl_ltF, fl_leT, fl_leF, fl_eqT, fl_eqF, decide_true, decide_false, Bool.true_and, Bool.and_true, Bool.false_and, Bool.and_false, if_true, if_false, Bool.false_eq_true, Option.isSome_some, Option.getD_some, not_true_eq_false, not_false_eq_true, Option.toList_some, Option.toList_none, List.cons_append, List.nil_append, e130, fbP_261_110]; rfl
    · refine ⟨y7, ?_, qy7⟩; simp (disch := omega) only [hg0.1, hg0.2, fl_KM, fl_RM, fl_lit, fl_nadd, fl_nmul, fl_ndiv, fl_nsub, fl_msub, fl_nle, fl_nlt, fl_neq, fl_nclamp, fl_nin, fl_ltT, fl_ltF, fl_leT, fl_leF, fl_eqT, fl_eqF, decide_true, decide_false, Bool.true_and, Bool.and_true, Bool.false_and, Bool.and_false, if_true, if_false, Bool.false_eq_true, Option.isSome_some, Option.getD_some, not_true_eq_false, not_false_eq_true, Option.toList_some, Option.toList_none, List.cons_append, List.nil_append, e259, fbP_261_115]; rfl
    · refine ⟨H, ?_, qr⟩; simp (disch := omega) only [hg0.1, hg0.2, fl_KM, fl_RM, fl_lit, fl_nadd, fl_nmul, fl_ndiv, fl_nsub, fl_msub, fl_nle, fl_nlt, fl_neq, fl_nclamp, fl_nin, fl_ltT, fl_ltF, fl_leT, fl_leF, fl_eqT, fl_eqF, decide_true, decide_false, Bool.true_and, Bool.and_true, Bool.false_and, Bool.and_false, if_true, if_false, Bool.false_eq_true, Option.isSome_some, Option.getD_some, not_true_eq_false, not_false_eq_true, Option.toList_some, Option.toList_none, List.cons_append, List.nil_append, m77]; rfl
    · refine ⟨H, ?_, qr⟩; simp (disch := omega) only [hg0.1, hg0.2, fl_KM, fl_RM, fl_lit, fl_nadd, fl_nmul, fl_ndiv, fl_nsub, fl_msub, fl_nle, fl_nlt, fl_neq, fl_nclamp, fl_nin, fl_ltT, fl_ltF, fl_leT, fl_leF, fl_eqT, fl_eqF, decide_true, decide_false, Bool.true_and, Bool.and_true, Bool.false_and, Bool.and_false, if_true, if_false, Bool.false_eq_true, Option.isSome_some, Option.getD_some, not_true_eq_false, not_false_eq_true, Option.toList_some, Option.toList_none, List.cons_append, List.nil_append, fs, b7, fbP_261_133]; rfl
    · refine ⟨y10, ?_, qy10⟩; simp (disch := omega) only [hg0.1, hg0.2, fl_KM, fl_RM, fl_lit, fl_nadd, fl_nmul, fl_ndiv, fl_nsub, fl_msub, fl_nle, fl_nlt, fl_neq, fl_nclamp, fl_nin, fl_ltT, fl_ltF, fl_leT, fl_leF, fl_eqT, fl_eqF, decide_true, decide_false, Bool.true_and, Bool.and_true, Bool.false_and, Bool.and_false, if_true, if_false, Bool.false_eq_true, Option.isSome_some, Option.getD_some, not_true_eq_false, not_false_eq_true, Option.toList_some, Option.toList_none, List.cons_append, List.nil_append, e260, fbP_261_138]; rfl
    · refine ⟨H, ?_, qr⟩; simp (disch := omega) only [hg0.1, hg0.2, fl_KM, fl_RM, fl_lit, fl_nadd, fl_nmul, fl_ndiv, fl_nsub, fl_msub, fl_nle, fl_nlt, fl_neq, fl_nclamp, fl_nin, fl_ltT, fl_ltF, fl_leT, fl_leF, fl_eqT, fl_eqF, decide_true, decide_false, Bool.true_and, Bool.and_true, Bool.false_and, Bool.and_false, if_true, if_false, Bool.false_eq_true, Option.isSome_some, Option.getD_some, not_true_eq_false, not_false_eq_true, Option.toList_some, Option.toList_none, List.cons_append, List.nil_append, f4]; rfl
    · refine ⟨H, ?_, qr⟩; simp (disch := omega) only [hg0.1, hg0.2, fl_KM, fl_RM, fl_lit, fl_nadd, fl_nmul, fl_ndiv, fl_nsub, fl_msub, fl_nle, fl_nlt, fl_neq, fl_nclamp, fl_nin, fl_ltT, fl_ltF, fl_leT, fl_leF, fl_eqT, fl_eqF, decide_true, decide_false, Bool.true_and, Bool.and_true, Bool.false_and, Bool.and_false, if_true, if_false, Bool.false_eq_true, Option.isSome_some, Option.getD_some, not_true_eq_false, not_false_eq_true, Option.toList_some, Option.toList_none, List.cons_append, List.nil_append, f1]; rfl
  · rw [if_neg c0]
    have y := fun i (hi : i < 13) => fl_nin_ne c0 hi (show i < 2147483648 by omega)
    have y0 := y 0 (by omega)
    have y1 := y 1 (by omega)
    have y2 := y 2 (by omega)
    have y3 := y 3 (by omega)
    have y4 := y 4 (by omega)
    have y5 := y 5 (by omega)
    have y6 := y 6 (by omega)
    have y7 := y 7 (by omega)
    have y8 := y 8 (by omega)
    have y9 := y 9 (by omega)
    have y10 := y 10 (by omega)
    have y11 := y 11 (by omega)
    have y12 := y 12 (by omega)
    refine ⟨H, ?_, qr⟩
    rw [fbC_261_5]
    simp only [fl_lit, fl_nadd, fl_nmul, fl_ndiv, fl_nsub, fl_msub, fl_nle, fl_nlt, fl_neq, fl_nclamp, fl_nin, fl_ltT, fl_ltF, fl_leT, fl_leF, fl_eqT, fl_eqF, decide_true, decide_false, Bool.true_and, Bool.and_true, Bool.false_and, Bool.and_false, if_true, if_false, Bool.false_eq_true, Option.isSome_some, Option.getD_some, not_true_eq_false, not_false_eq_true, Option.toList_some, Option.toList_none, List.cons_append, List.nil_append, y0, y1, y2, y3, y4, y5, y6, y7, y8, y9, y10, y11, y12]
theorem fo_count (I : fl_Inv k0 c h) (p : Int32) : fl_both k0 c 257 261 [.int p] [.int p] h := by
  obtain ⟨tn, tx, iT⟩ := I.2.2.1
  obtain ⟨rn, rv, iO⟩ := I.2.2.2.1
  obtain ⟨g, g1, g2, b1, b2, s, s1, s2, iG⟩ := I.2.2.2.2.2
  have a := fo_count_a I.1 iG.1 iG.2.2.2.1 iT.1 iO.1 iT.2.2.2.1 iO.2.2.2.1 p
  obtain ⟨y, b, q⟩ := fo_count_b I.1 iG.2.1 iG.1 iG.2.2.1 iT.1 iO.1 iT.2.1 iO.2.1 p
  exact ⟨_, _, _, a, b, fl_Inv_qt I q⟩
end
