/-! classes, classOf: the class's side -/
section
variable {k0 : Nat → Nat × Nat} {h : fl_H} {g : Nat → Nat} {s : Int64}
theorem fl_SK_nt {x : fl_H} (nt : fl_net h 28 g) (a : fl_df fl_SK h x) : fl_net x 28 g := fl_net_fr nt (fl_df_i a (fun j => by omega)) (fun q z1 z2 => fl_df_l a (fun j => by omega))
theorem fc_195 (hg : fl_g k0 h) (w : fl_wf g) (nt : fl_net h 28 g) {L : List (Nat × Nat)} (q : fl_cqs (fl_l h 213) L) {k p : Nat} (hk : k < g 0) (hp : p < g 2) (hs : 1 ≤ g (4 + k) ∧ g (4 + k) ≤ 8) : ∃ y, fl_cl fl_C 195 [.ref 211, .ref 28, .int (Int32.ofNat k), .int (Int32.ofNat p)] h = some (some none, y) ∧ fl_df fl_SK h y ∧ fl_cqs (fl_l y 213) (L ++ fl_jg g k p) := by
  have w0 : g 0 ≤ 12 := w.1.2.2.2.1
  have w2 : g 2 ≤ 20 := w.1.2.2.2.2.1
  have N := fl_sk28 (k0 := k0)
  have o28 := N.1
  have o29 : fl_KK k0 29 = (1, 1) := N.2.1.1
  have o211 := (fl_kin (k0 := k0)).2
  have e24 := fc_int N.2.1 hg (show k < 12 by omega)
  rw [nt.2.1 k hk, fl_o32] at e24
  have e112 := fc_112 (h := h) (s := g (4 + k)) (by omega)
  have p0 : fl_cl fl_C 111 [.ref 28, .int (Int32.ofNat p), .int (Int32.ofNat 0)] h = some (some (some (.int (Int32.ofNat (2 * (g 0 + p))))), h) := fc_111 hg N w nt (show p < 20 by omega) (z := 0) (by omega)
  have p1 : fl_cl fl_C 111 [.ref 28, .int (Int32.ofNat p), .int (Int32.ofNat 1)] h = some (some (some (.int (Int32.ofNat (2 * (g 0 + p) + 1)))), h) := fc_111 hg N w nt (show p < 20 by omega) (z := 1) (by omega)
  have p1y : ∀ {y : fl_H}, fl_df fl_SK h y → fl_cl fl_C 111 [.ref 28, .int (Int32.ofNat p), .int (Int32.ofNat 1)] y = some (some (some (.int (Int32.ofNat (2 * (g 0 + p) + 1)))), y) := fun a => fc_111 (fl_df_g hg a) N w (fl_SK_nt nt a) (show p < 20 by omega) (z := 1) (by omega)
  have jg : fl_jg g k p = if g (4 + k) = 1 then [(2 * (g 0 + p), 2 * k + 1), (2 * (g 0 + p) + 1, 2 * k)] else
    if g (4 + k) = 2 then [(2 * (g 0 + p), 2 * k), (2 * (g 0 + p) + 1, 2 * k + 1)] else
    if g (4 + k) = 3 then [(2 * (g 0 + p), 2 * k)] else if g (4 + k) = 6 then [(2 * (g 0 + p), 2 * k + 1)] else
    if g (4 + k) = 4 then [(2 * (g 0 + p) + 1, 2 * k + 1)] else if g (4 + k) = 7 then [(2 * (g 0 + p) + 1, 2 * k)] else [] := rfl
  rw [jg]
  clear jg
  generalize hs' : g (4 + k) = sx at *
  rcases (show sx = 1 ∨ sx = 2 ∨ sx = 3 ∨ sx = 4 ∨ sx = 5 ∨ sx = 6 ∨ sx = 7 ∨ sx = 8 by omega) with e | e | e | e | e | e | e | e <;> subst e
  · rw [if_pos rfl, show L ++ [(2 * (g 0 + p), 2 * k + 1), (2 * (g 0 + p) + 1, 2 * k)] = (L ++ [(2 * (g 0 + p), 2 * k + 1)]) ++ [(2 * (g 0 + p) + 1, 2 * k)] by rw [List.append_assoc]; rfl]
    rw [if_pos (by omega)] at e112
    obtain ⟨y1, j1, d1, q1⟩ := fc_jn hg q (a := 2 * (g 0 + p)) (b := 2 * k + 1) (by omega) (by omega)
    obtain ⟨y2, j2, d2, q2⟩ := fc_jn (fl_df_g hg d1) q1 (a := 2 * (g 0 + p) + 1) (b := 2 * k) (by omega) (by omega)
    have g1 := fl_df_g hg d1
    have p1' := p1y d1
    refine ⟨y2, ?_, fl_df_tr d1 d2, q2⟩
    clear w nt q q1 q2 d1 d2 p1y hs'
    rw [fbE_195]
    simp (disch := omega) only [hg.1, hg.2, g1.1, g1.2, o28, o29, o211, fl_lit, fl_nadd, fl_nmul, fl_ndiv, fl_nsub, fl_msub, fl_nle, fl_nlt, fl_neq, fl_nclamp, fl_nin, fl_ltT, fl_ltF, fl_leT, fl_leF, fl_eqT, fl_eqF, decide_true, decide_false, Bool.true_and, Bool.and_true, Bool.false_and, Bool.and_false, if_true, if_false, Bool.false_eq_true, Option.isSome_some, Option.getD_some, not_true_eq_false, not_false_eq_true, Option.toList_some, Option.toList_none, List.cons_append, List.nil_append, e24, fbP_195_8, e112, fbP_195_15, fbC_195_23, fbC_195_37, fbC_195_42, fbC_195_62, p0, fbP_195_69, j1, fbP_195_78, fbC_195_78, fbC_195_96, p1', fbP_195_103, Nat.add_sub_cancel, Nat.add_zero, j2, fbP_195_114, fbC_195_114]
  · rw [if_neg (by omega), if_pos rfl, show L ++ [(2 * (g 0 + p), 2 * k), (2 * (g 0 + p) + 1, 2 * k + 1)] = (L ++ [(2 * (g 0 + p), 2 * k)]) ++ [(2 * (g 0 + p) + 1, 2 * k + 1)] by rw [List.append_assoc]; rfl]
    rw [if_neg (by omega)] at e112
    obtain ⟨y1, j1, d1, q1⟩ := fc_jn hg q (a := 2 * (g 0 + p)) (b := 2 * k) (by omega) (by omega)
    obtain ⟨y2, j2, d2, q2⟩ := fc_jn (fl_df_g hg d1) q1 (a := 2 * (g 0 + p) + 1) (b := 2 * k + 1) (by omega) (by omega)
    have g1 := fl_df_g hg d1
    have p1' := p1y d1
    refine ⟨y2, ?_, fl_df_tr d1 d2, q2⟩
    clear w nt q q1 q2 d1 d2 p1y hs'
    rw [fbE_195]
    simp (disch := omega) only [hg.1, hg.2, g1.1, g1.2, o28, o29, o211, fl_lit, fl_nadd, fl_nmul, fl_ndiv, fl_nsub, fl_msub, fl_nle, fl_nlt, fl_neq, fl_nclamp, fl_nin, fl_ltT, fl_ltF, fl_leT, fl_leF, fl_eqT, fl_eqF, decide_true, decide_false, Bool.true_and, Bool.and_true, Bool.false_and, Bool.and_false, if_true, if_false, Bool.false_eq_true, Option.isSome_some, Option.getD_some, not_true_eq_false, not_false_eq_true, Option.toList_some, Option.toList_none, List.cons_append, List.nil_append, e24, fbP_195_8, e112, fbP_195_15, fbC_195_23, fbC_195_37, fbC_195_42, fbC_195_62, p0, fbP_195_69, j1, fbP_195_78, fbC_195_78, fbC_195_96, p1', fbP_195_103, Nat.sub_zero, Nat.add_zero, j2, fbP_195_114, fbC_195_114]
  · rw [if_neg (by omega), if_neg (by omega), if_pos rfl]
    rw [if_neg (by omega)] at e112
    obtain ⟨y1, j1, d1, q1⟩ := fc_jn hg q (a := 2 * (g 0 + p)) (b := 2 * k) (by omega) (by omega)
    have g1 := fl_df_g hg d1
    refine ⟨y1, ?_, d1, q1⟩
    clear w nt q q1 d1 p1y hs'
    rw [fbE_195]
    simp (disch := omega) only [hg.1, hg.2, g1.1, g1.2, o28, o29, o211, fl_lit, fl_nadd, fl_nmul, fl_ndiv, fl_nsub, fl_msub, fl_nle, fl_nlt, fl_neq, fl_nclamp, fl_nin, fl_ltT, fl_ltF, fl_leT, fl_leF, fl_eqT, fl_eqF, decide_true, decide_false, Bool.true_and, Bool.and_true, Bool.false_and, Bool.and_false, if_true, if_false, Bool.false_eq_true, Option.isSome_some, Option.getD_some, not_true_eq_false, not_false_eq_true, Option.toList_some, Option.toList_none, List.cons_append, List.nil_append, e24, fbP_195_8, e112, fbP_195_15, fbC_195_23, fbC_195_37, fbC_195_42, fbC_195_62, p0, fbP_195_69, Nat.add_zero, j1, fbP_195_78, fbC_195_78, fbC_195_114]
  · rw [if_neg (by omega), if_neg (by omega), if_neg (by omega), if_neg (by omega), if_pos rfl]
    rw [if_neg (by omega)] at e112
    obtain ⟨y1, j1, d1, q1⟩ := fc_jn hg q (a := 2 * (g 0 + p) + 1) (b := 2 * k + 1) (by omega) (by omega)
    have g1 := fl_df_g hg d1
    refine ⟨y1, ?_, d1, q1⟩
    clear w nt q q1 d1 p1y hs'
    rw [fbE_195]
    simp (disch := omega) only [hg.1, hg.2, g1.1, g1.2, o28, o29, o211, fl_lit, fl_nadd, fl_nmul, fl_ndiv, fl_nsub, fl_msub, fl_nle, fl_nlt, fl_neq, fl_nclamp, fl_nin, fl_ltT, fl_ltF, fl_leT, fl_leF, fl_eqT, fl_eqF, decide_true, decide_false, Bool.true_and, Bool.and_true, Bool.false_and, Bool.and_false, if_true, if_false, Bool.false_eq_true, Option.isSome_some, Option.getD_some, not_true_eq_false, not_false_eq_true, Option.toList_some, Option.toList_none, List.cons_append, List.nil_append, e24, fbP_195_8, e112, fbP_195_15, fbC_195_23, fbC_195_42, fbC_195_78, fbC_195_96, p1, fbP_195_103, Nat.sub_zero, j1, fbP_195_114, fbC_195_114]
  · rw [if_neg (by omega), if_neg (by omega), if_neg (by omega), if_neg (by omega), if_neg (by omega), if_neg (by omega), List.append_nil]
    rw [if_neg (by omega)] at e112
    refine ⟨h, ?_, fl_df_rfl, q⟩
    clear w nt q p1y hs'
    rw [fbE_195]
    simp (disch := omega) only [hg.1, hg.2, o28, o29, o211, fl_lit, fl_nadd, fl_nmul, fl_ndiv, fl_nsub, fl_msub, fl_nle, fl_nlt, fl_neq, fl_nclamp, fl_nin, fl_ltT, fl_ltF, fl_leT, fl_leF, fl_eqT, fl_eqF, decide_true, decide_false, Bool.true_and, Bool.and_true, Bool.false_and, Bool.and_false, if_true, if_false, Bool.false_eq_true, Option.isSome_some, Option.getD_some, not_true_eq_false, not_false_eq_true, Option.toList_some, Option.toList_none, List.cons_append, List.nil_append, e24, fbP_195_8, e112, fbP_195_15, fbC_195_23, fbC_195_42, fbC_195_78, fbC_195_114]
  · rw [if_neg (by omega), if_neg (by omega), if_neg (by omega), if_pos rfl]
    rw [if_pos (by omega)] at e112
    obtain ⟨y1, j1, d1, q1⟩ := fc_jn hg q (a := 2 * (g 0 + p)) (b := 2 * k + 1) (by omega) (by omega)
    have g1 := fl_df_g hg d1
    refine ⟨y1, ?_, d1, q1⟩
    clear w nt q q1 d1 p1y hs'
    rw [fbE_195]
    simp (disch := omega) only [hg.1, hg.2, g1.1, g1.2, o28, o29, o211, fl_lit, fl_nadd, fl_nmul, fl_ndiv, fl_nsub, fl_msub, fl_nle, fl_nlt, fl_neq, fl_nclamp, fl_nin, fl_ltT, fl_ltF, fl_leT, fl_leF, fl_eqT, fl_eqF, decide_true, decide_false, Bool.true_and, Bool.and_true, Bool.false_and, Bool.and_false, if_true, if_false, Bool.false_eq_true, Option.isSome_some, Option.getD_some, not_true_eq_false, not_false_eq_true, Option.toList_some, Option.toList_none, List.cons_append, List.nil_append, e24, fbP_195_8, e112, fbP_195_15, fbC_195_23, fbC_195_37, fbC_195_42, fbC_195_62, p0, fbP_195_69, j1, fbP_195_78, fbC_195_78, fbC_195_114]
  · rw [if_neg (by omega), if_neg (by omega), if_neg (by omega), if_neg (by omega), if_neg (by omega), if_pos rfl]
    rw [if_pos (by omega)] at e112
    obtain ⟨y1, j1, d1, q1⟩ := fc_jn hg q (a := 2 * (g 0 + p) + 1) (b := 2 * k) (by omega) (by omega)
    have g1 := fl_df_g hg d1
    refine ⟨y1, ?_, d1, q1⟩
    clear w nt q q1 d1 p1y hs'
    rw [fbE_195]
    simp (disch := omega) only [hg.1, hg.2, g1.1, g1.2, o28, o29, o211, fl_lit, fl_nadd, fl_nmul, fl_ndiv, fl_nsub, fl_msub, fl_nle, fl_nlt, fl_neq, fl_nclamp, fl_nin, fl_ltT, fl_ltF, fl_leT, fl_leF, fl_eqT, fl_eqF, decide_true, decide_false, Bool.true_and, Bool.and_true, Bool.false_and, Bool.and_false, if_true, if_false, Bool.false_eq_true, Option.isSome_some, Option.getD_some, not_true_eq_false, not_false_eq_true, Option.toList_some, Option.toList_none, List.cons_append, List.nil_append, e24, fbP_195_8, e112, fbP_195_15, fbC_195_23, fbC_195_42, fbC_195_78, fbC_195_96, p1, fbP_195_103, Nat.add_sub_cancel, j1, fbP_195_114, fbC_195_114]
  · rw [if_neg (by omega), if_neg (by omega), if_neg (by omega), if_neg (by omega), if_neg (by omega), if_neg (by omega), List.append_nil]
    rw [if_neg (by omega)] at e112
    refine ⟨h, ?_, fl_df_rfl, q⟩
    clear w nt q p1y hs'
    rw [fbE_195]
    simp (disch := omega) only [hg.1, hg.2, o28, o29, o211, fl_lit, fl_nadd, fl_nmul, fl_ndiv, fl_nsub, fl_msub, fl_nle, fl_nlt, fl_neq, fl_nclamp, fl_nin, fl_ltT, fl_ltF, fl_leT, fl_leF, fl_eqT, fl_eqF, decide_true, decide_false, Bool.true_and, Bool.and_true, Bool.false_and, Bool.and_false, if_true, if_false, Bool.false_eq_true, Option.isSome_some, Option.getD_some, not_true_eq_false, not_false_eq_true, Option.toList_some, Option.toList_none, List.cons_append, List.nil_append, e24, fbP_195_8, e112, fbP_195_15, fbC_195_23, fbC_195_42, fbC_195_78, fbC_195_114]
theorem fl_jr_y {p : Nat} (c : fl_cnt (fun q => decide (g (52 + q) = g (52 + p))) (g 2) = 1 ∧ fl_any (fun j => decide (g (72 + j) = g (52 + p))) (g 3) = false) : fl_jr g p = [(2 * g (52 + p), 2 * (g 0 + p)), (2 * g (52 + p) + 1, 2 * (g 0 + p) + 1)] := if_pos c
theorem fl_jr_n {p : Nat} (c : ¬ (fl_cnt (fun q => decide (g (52 + q) = g (52 + p))) (g 2) = 1 ∧ fl_any (fun j => decide (g (72 + j) = g (52 + p))) (g 3) = false)) : fl_jr g p = [] := if_neg c
theorem fc_196 (hg : fl_g k0 h) (w : fl_wf g) (nt : fl_net h 28 g) : fl_to (fl_cl fl_C 196 [.ref 211, .ref 28] h) (fun v y => v = none ∧ fl_df fl_SK h y ∧ fl_cqs (fl_l y 213) (fl_JC g)) := by
  have w0 : g 0 ≤ 12 := w.1.2.2.2.1
  have w2 : g 2 ≤ 20 := w.1.2.2.2.2.1
  have N := fl_sk28 (k0 := k0)
  have o28 := N.1
  have o212 : fl_KK k0 212 = (1, 1) := (fl_kin (k0 := k0)).1.1
  have o31 : fl_KK k0 31 = (1, 1) := N.2.2.1.1
  have o33 : fl_KK k0 33 = (1, 1) := N.2.2.2.1.1
  have o37 : fl_KK k0 37 = (1, 1) := N.2.2.2.2.2.1.1
  have o211 := (fl_kin (k0 := k0)).2
  -- each alone
  have lp := fl_iter (fun f => fl_Rn fl_C 196 2 [some (.ref 211), some (.ref 28), some (.int (Int32.ofNat f))] [] (fl_wl h 213 (fl_al f (fun f => 1 <<< (Int32.toInt64 (Int32.ofNat f) &&& 63)) (fl_l h 213)))) 64 (fun f hf => by
    have gx : fl_g k0 (fl_wl h 213 (fl_al f (fun f => 1 <<< (Int32.toInt64 (Int32.ofNat f) &&& 63)) (fl_l h 213))) := ⟨by rw [fl_k_wl]; exact hg.1, by rw [fl_r_wl]; exact hg.2⟩
    have pt := fc_put (fl_kin (k0 := k0)).1 gx hf (1 <<< (Int32.toInt64 (Int32.ofNat f) &&& 63))
    rw [fl_l_wl, if_pos rfl, fl_wl_wl, fl_al_succ rfl] at pt
    clear w nt
    try dsimp only
    rw [fbC_196_2]
    simp (disch := omega) only [fl_k_wl, fl_r_wl, hg.1, hg.2, o211, o212, fl_lit, fl_nadd, fl_nmul, fl_ndiv, fl_nsub, fl_msub, fl_nle, fl_nlt, fl_neq, fl_nclamp, fl_nin, fl_ltT, fl_ltF, fl_leT, fl_leF, fl_eqT, fl_eqF, decide_true, decide_false, Bool.true_and, Bool.and_true, Bool.false_and, Bool.and_false, if_true, if_false, Bool.false_eq_true, Option.isSome_some, Option.getD_some, not_true_eq_false, not_false_eq_true, Option.toList_some, Option.toList_none, List.cons_append, List.nil_append, pt, fbP_196_19])
  have d0 : fl_df fl_SK h (fl_wl h 213 (fl_al 64 (fun f => 1 <<< (Int32.toInt64 (Int32.ofNat f) &&& 63)) (fl_l h 213))) := fl_df_wl fl_df_rfl (fun j z => absurd rfl z)
  have q0 : fl_cqs (fl_l (fl_wl h 213 (fl_al 64 (fun f => 1 <<< (Int32.toInt64 (Int32.ofNat f) &&& 63)) (fl_l h 213))) 213) (fl_jla g (fl_jg g) 0) := fun f c hf hc => by
    rw [fl_l_wl, if_pos rfl, fl_al_lt hf, fl_hb_bit hf hc, decide_eq_true_iff]
    exact ⟨fun e => fl_eqv_nil.mpr e.symm, fun e => (fl_eqv_nil.mp e).symm⟩
  have st : fl_cl fl_C 196 [.ref 211, .ref 28] h = fl_Rn fl_C 196 27 [some (.ref 211), some (.ref 28), some (.int (Int32.ofNat 0))] [] (fl_wl h 213 (fl_al 64 (fun f => 1 <<< (Int32.toInt64 (Int32.ofNat f) &&& 63)) (fl_l h 213))) := by
    try dsimp only at lp
    rw [fl_al_0, fl_wl_self rfl] at lp
    rw [fbE_196]
    refine lp.trans ?_
    clear w nt lp d0 q0
    rw [fbC_196_2]
    simp (disch := omega) only [fl_lit, fl_nadd, fl_nmul, fl_ndiv, fl_nsub, fl_msub, fl_nle, fl_nlt, fl_neq, fl_nclamp, fl_nin, fl_ltT, fl_ltF, fl_leT, fl_leF, fl_eqT, fl_eqF, decide_true, decide_false, Bool.true_and, Bool.and_true, Bool.false_and, Bool.and_false, if_true, if_false, Bool.false_eq_true, Option.isSome_some, Option.getD_some, not_true_eq_false, not_false_eq_true, Option.toList_some, Option.toList_none, List.cons_append, List.nil_append]
  rw [st]
  clear st lp
  generalize fl_wl h 213 (fl_al 64 (fun f => 1 <<< (Int32.toInt64 (Int32.ofNat f) &&& 63)) (fl_l h 213)) = H0 at *
  -- the gates
  refine fl_loopT (F := fun k x => fl_Rn fl_C 196 27 [some (.ref 211), some (.ref 28), some (.int (Int32.ofNat k))] [] x) (fun k x => fl_df fl_SK h x ∧ fl_cqs (fl_l x 213) (fl_jla g (fl_jg g) k)) (g 0) ?_ ?_ 0 H0 (Nat.zero_le _) ⟨d0, q0⟩
  · rintro x ⟨dx, qx⟩
    have gx := fl_df_g hg dx
    have i1 : fl_i x 28 1 = Int32.ofNat (g 0) := (fl_SK_nt nt dx).1.2.1
    have ex : fl_Rn fl_C 196 27 [some (.ref 211), some (.ref 28), some (.int (Int32.ofNat (g 0)))] [] x = fl_Rn fl_C 196 88 [some (.ref 211), some (.ref 28), some (.int (Int32.ofNat 0))] [] x := by
      clear w nt dx qx d0 q0
      rw [fbC_196_27]
      simp (disch := omega) only [gx.1, o28, fl_lit, fl_nadd, fl_nmul, fl_ndiv, fl_nsub, fl_msub, fl_nle, fl_nlt, fl_neq, fl_nclamp, fl_nin, fl_ltT, fl_ltF, fl_leT, fl_leF, fl_eqT, fl_eqF, decide_true, decide_false, Bool.true_and, Bool.and_true, Bool.false_and, Bool.and_false, if_true, if_false, Bool.false_eq_true, Option.isSome_some, Option.getD_some, not_true_eq_false, not_false_eq_true, Option.toList_some, Option.toList_none, List.cons_append, List.nil_append, i1]
    rw [ex]
    -- the readers
    refine fl_loopT (F := fun p x => fl_Rn fl_C 196 88 [some (.ref 211), some (.ref 28), some (.int (Int32.ofNat p))] [] x) (fun p x => fl_df fl_SK h x ∧ fl_cqs (fl_l x 213) (fl_jla g (fl_jg g) (g 0) ++ fl_jlr g p)) (g 2) ?_ ?_ 0 x (Nat.zero_le _) ⟨dx, fl_cqs_cg qx (List.append_nil _).symm⟩
    · rintro z ⟨dz, qz⟩
      have gz := fl_df_g hg dz
      have i2 : fl_i z 28 2 = Int32.ofNat (g 2) := (fl_SK_nt nt dz).1.2.2.1
      have fin : fl_Rn fl_C 196 88 [some (.ref 211), some (.ref 28), some (.int (Int32.ofNat (g 2)))] [] z = some (some none, z) := by
        clear w nt dx qx d0 q0 dz qz
        rw [fbC_196_88]
        simp (disch := omega) only [gz.1, o28, fl_lit, fl_nadd, fl_nmul, fl_ndiv, fl_nsub, fl_msub, fl_nle, fl_nlt, fl_neq, fl_nclamp, fl_nin, fl_ltT, fl_ltF, fl_leT, fl_leF, fl_eqT, fl_eqF, decide_true, decide_false, Bool.true_and, Bool.and_true, Bool.false_and, Bool.and_false, if_true, if_false, Bool.false_eq_true, Option.isSome_some, Option.getD_some, not_true_eq_false, not_false_eq_true, Option.toList_some, Option.toList_none, List.cons_append, List.nil_append, i2]
      exact ⟨_, _, fin, rfl, dz, qz⟩
    · rintro p z hp ⟨dz, qz⟩ hy
      have gz := fl_df_g hg dz
      have nz := fl_SK_nt nt dz
      have i2 : fl_i z 28 2 = Int32.ofNat (g 2) := nz.1.2.2.1
      have lr : g (52 + p) < g 0 := w.2.2.2.2.1 p hp
      have e24 := fc_int N.2.2.2.2.2.1 gz (show p < 20 by omega)
      rw [nz.2.2.2.2.2.1 p hp, fl_o32] at e24
      have e92 := fc_92 gz N w nz (k := g (52 + p)) (by omega)
      have cl := fl_cnt_le (q := fun q => decide (g (52 + q) = g (52 + p))) (g 2)
      have e61 := fc_61 gz N w nz (k := g (52 + p)) (by omega)
      have lst : ∀ M, fl_jla g (fl_jg g) (g 0) ++ fl_jlr g (p + 1) = (fl_jla g (fl_jg g) (g 0) ++ fl_jlr g p) ++ M ↔ fl_jr g p = M := fun M => by
        rw [fl_jlr, ← List.append_assoc]
        exact ⟨fun e => List.append_cancel_left e, fun e => by rw [e]⟩
      by_cases c1 : fl_cnt (fun q => decide (g (52 + q) = g (52 + p))) (g 2) = 1
      · cases c2 : fl_any (fun j => decide (g (72 + j) = g (52 + p))) (g 3) with
        | true =>
          rw [c2, if_pos rfl] at e61
          rw [c1] at e92
          have fin : fl_Rn fl_C 196 88 [some (.ref 211), some (.ref 28), some (.int (Int32.ofNat p))] [] z = fl_Rn fl_C 196 88 [some (.ref 211), some (.ref 28), some (.int (Int32.ofNat (p + 1)))] [] z := by
            clear w nt dx qx d0 q0 dz qz nz hy lst
            generalize g (52 + p) = r at *
            rw [fbC_196_88]
            simp (disch := omega) only [gz.1, gz.2, o28, o37, fl_lit, fl_nadd, fl_nmul, fl_ndiv, fl_nsub, fl_msub, fl_nle, fl_nlt, fl_neq, fl_nclamp, fl_nin, fl_ltT, fl_ltF, fl_leT, fl_leF, fl_eqT, fl_eqF, decide_true, decide_false, Bool.true_and, Bool.and_true, Bool.false_and, Bool.and_false, if_true, if_false, Bool.false_eq_true, Option.isSome_some, Option.getD_some, not_true_eq_false, not_false_eq_true, Option.toList_some, Option.toList_none, List.cons_append, List.nil_append, i2, e24, fbP_196_104, e92, fbP_196_110, e61, fbP_196_119, fbC_196_150]
          rw [fin]
          exact hy z ⟨dz, by rw [(lst []).mpr (fl_jr_n (fun y => by rw [c2] at y; cases y.2)), List.append_nil]; exact qz⟩
        | false =>
          rw [c2, if_neg (by decide)] at e61
          rw [c1] at e92
          have p0 : fl_cl fl_C 111 [.ref 28, .int (Int32.ofNat p), .int (Int32.ofNat 0)] z = some (some (some (.int (Int32.ofNat (2 * (g 0 + p))))), z) := fc_111 gz N w nz (show p < 20 by omega) (z := 0) (by omega)
          obtain ⟨y1, j1, d1, q1⟩ := fc_jn gz qz (a := 2 * g (52 + p)) (b := 2 * (g 0 + p)) (by omega) (by omega)
          have g1 := fl_df_g gz d1
          have p1 : fl_cl fl_C 111 [.ref 28, .int (Int32.ofNat p), .int (Int32.ofNat 1)] y1 = some (some (some (.int (Int32.ofNat (2 * (g 0 + p) + 1)))), y1) := fc_111 g1 N w (fl_SK_nt nt (fl_df_tr dz d1)) (show p < 20 by omega) (z := 1) (by omega)
          obtain ⟨y2, j2, d2, q2⟩ := fc_jn g1 q1 (a := 2 * g (52 + p) + 1) (b := 2 * (g 0 + p) + 1) (by omega) (by omega)
          have fin : fl_Rn fl_C 196 88 [some (.ref 211), some (.ref 28), some (.int (Int32.ofNat p))] [] z = fl_Rn fl_C 196 88 [some (.ref 211), some (.ref 28), some (.int (Int32.ofNat (p + 1)))] [] y2 := by
            clear w nt dx qx d0 q0 dz qz nz hy lst q1 q2 d1 d2
            generalize g (52 + p) = r at *
            rw [fbC_196_88]
            simp (disch := omega) only [gz.1, gz.2, g1.1, g1.2, o28, o37, o211, fl_lit, fl_nadd, fl_nmul, fl_ndiv, fl_nsub, fl_msub, fl_nle, fl_nlt, fl_neq, fl_nclamp, fl_nin, fl_ltT, fl_ltF, fl_leT, fl_leF, fl_eqT, fl_eqF, decide_true, decide_false, Bool.true_and, Bool.and_true, Bool.false_and, Bool.and_false, if_true, if_false, Bool.false_eq_true, Option.isSome_some, Option.getD_some, not_true_eq_false, not_false_eq_true, Option.toList_some, Option.toList_none, List.cons_append, List.nil_append, i2, e24, fbP_196_104, e92, fbP_196_110, e61, fbP_196_119, p0, fbP_196_132, j1, fbP_196_135, p1, fbP_196_147, j2, fbP_196_150, fbC_196_150]
          rw [fin]
          exact hy y2 ⟨fl_df_tr dz (fl_df_tr d1 d2), by rw [(lst _).mpr (fl_jr_y ⟨c1, c2⟩)]; exact fl_cqs_cg q2 (by rw [List.append_assoc]; rfl)⟩
      · have fin : fl_Rn fl_C 196 88 [some (.ref 211), some (.ref 28), some (.int (Int32.ofNat p))] [] z = fl_Rn fl_C 196 88 [some (.ref 211), some (.ref 28), some (.int (Int32.ofNat (p + 1)))] [] z := by
          clear w nt dx qx d0 q0 dz qz nz hy lst e61
          generalize fl_cnt (fun q => decide (g (52 + q) = g (52 + p))) (g 2) = CN at *
          generalize g (52 + p) = r at *
          rw [fbC_196_88]
          simp (disch := omega) only [gz.1, gz.2, o28, o37, fl_lit, fl_nadd, fl_nmul, fl_ndiv, fl_nsub, fl_msub, fl_nle, fl_nlt, fl_neq, fl_nclamp, fl_nin, fl_ltT, fl_ltF, fl_leT, fl_leF, fl_eqT, fl_eqF, decide_true, decide_false, Bool.true_and, Bool.and_true, Bool.false_and, Bool.and_false, if_true, if_false, Bool.false_eq_true, Option.isSome_some, Option.getD_some, not_true_eq_false, not_false_eq_true, Option.toList_some, Option.toList_none, List.cons_append, List.nil_append, i2, e24, fbP_196_104, e92, fbP_196_110, fbC_196_150]
        rw [fin]
        exact hy z ⟨dz, by rw [(lst []).mpr (fl_jr_n (fun y => c1 y.1)), List.append_nil]; exact qz⟩
  · rintro k x hk ⟨dx, qx⟩ hy
    have gx := fl_df_g hg dx
    have nx := fl_SK_nt nt dx
    have i1 : fl_i x 28 1 = Int32.ofNat (g 0) := nx.1.2.1
    have e33 := fc_int N.2.2.2.1 gx (show k < 12 by omega)
    have e31 := fc_int N.2.2.1 gx (show k < 12 by omega)
    rw [nx.2.2.2.1 k hk] at e33
    rw [nx.2.2.1 k hk, fl_o32] at e31
    by_cases l : k < g 1
    · have z28 := (w.2.1 k l).2.2.1
      rw [z28, if_pos rfl] at e33
      rw [z28] at e31
      have m1 : (-1 : Int64).toInt32 = -Int32.ofNat 1 := by decide
      have le : (-Int32.ofNat 1 + Int32.ofNat 0 ≤ -Int32.ofNat 1) = True := eq_true (by decide)
      rw [m1] at e33
      have fin : fl_Rn fl_C 196 27 [some (.ref 211), some (.ref 28), some (.int (Int32.ofNat k))] [] x = fl_Rn fl_C 196 27 [some (.ref 211), some (.ref 28), some (.int (Int32.ofNat (k + 1)))] [] x := by
        clear w nt dx qx d0 q0 nx hy
        rw [fbC_196_27]
        simp (disch := omega) only [gx.1, gx.2, o28, o31, o33, fl_lit, fl_nadd, fl_nmul, fl_ndiv, fl_nsub, fl_msub, fl_nle, fl_nlt, fl_neq, fl_nclamp, fl_nin, fl_ltT, fl_ltF, fl_leT, fl_leF, fl_eqT, fl_eqF, decide_true, decide_false, Bool.true_and, Bool.and_true, Bool.false_and, Bool.and_false, if_true, if_false, Bool.false_eq_true, Option.isSome_some, Option.getD_some, not_true_eq_false, not_false_eq_true, Option.toList_some, Option.toList_none, List.cons_append, List.nil_append, i1, e33, fbP_196_43, e31, fbP_196_53, fbC_196_59, le]
      rw [fin]
      exact hy x ⟨dx, fl_cqs_cg qx (by rw [fl_jla, z28]; exact (List.append_nil _).symm)⟩
    · have wk := w.2.2.1 k (by omega) hk
      rw [if_neg (by omega), fl_o32] at e33
      have st : fl_Rn fl_C 196 27 [some (.ref 211), some (.ref 28), some (.int (Int32.ofNat k))] [] x = fl_Rn fl_C 196 59 [some (.ref 211), some (.ref 28), some (.int (Int32.ofNat k)), none, some (.int (Int32.ofNat (g (16 + k) + g (28 + k)))), some (.int (Int32.ofNat (g (16 + k) + 0)))] [] x := by
        rw [Nat.add_zero]
        clear w nt dx qx d0 q0 nx hy
        rw [fbC_196_27]
        simp (disch := omega) only [gx.1, gx.2, o28, o31, o33, fl_lit, fl_nadd, fl_nmul, fl_ndiv, fl_nsub, fl_msub, fl_nle, fl_nlt, fl_neq, fl_nclamp, fl_nin, fl_ltT, fl_ltF, fl_leT, fl_leF, fl_eqT, fl_eqF, decide_true, decide_false, Bool.true_and, Bool.and_true, Bool.false_and, Bool.and_false, if_true, if_false, Bool.false_eq_true, Option.isSome_some, Option.getD_some, not_true_eq_false, not_false_eq_true, Option.toList_some, Option.toList_none, List.cons_append, List.nil_append, i1, e33, fbP_196_43, e31, fbP_196_53]
      rw [st]
      refine fl_loopT (F := fun i x => fl_Rn fl_C 196 59 [some (.ref 211), some (.ref 28), some (.int (Int32.ofNat k)), none, some (.int (Int32.ofNat (g (16 + k) + g (28 + k)))), some (.int (Int32.ofNat (g (16 + k) + i)))] [] x) (fun i x => fl_df fl_SK h x ∧ fl_cqs (fl_l x 213) (fl_jla g (fl_jg g) k ++ fl_jlk g (fl_jg g) k i)) (g (28 + k)) ?_ ?_ 0 x (Nat.zero_le _) ⟨dx, fl_cqs_cg qx (List.append_nil _).symm⟩
      · rintro z ⟨dz, qz⟩
        have gz := fl_df_g hg dz
        have fin : fl_Rn fl_C 196 59 [some (.ref 211), some (.ref 28), some (.int (Int32.ofNat k)), none, some (.int (Int32.ofNat (g (16 + k) + g (28 + k)))), some (.int (Int32.ofNat (g (16 + k) + g (28 + k))))] [] z = fl_Rn fl_C 196 27 [some (.ref 211), some (.ref 28), some (.int (Int32.ofNat (k + 1)))] [] z := by
          clear w nt dx qx d0 q0 nx hy dz qz
          rw [fbC_196_59]
          simp (disch := omega) only [fl_lit, fl_nadd, fl_nmul, fl_ndiv, fl_nsub, fl_msub, fl_nle, fl_nlt, fl_neq, fl_nclamp, fl_nin, fl_ltT, fl_ltF, fl_leT, fl_leF, fl_eqT, fl_eqF, decide_true, decide_false, Bool.true_and, Bool.and_true, Bool.false_and, Bool.and_false, if_true, if_false, Bool.false_eq_true, Option.isSome_some, Option.getD_some, not_true_eq_false, not_false_eq_true, Option.toList_some, Option.toList_none, List.cons_append, List.nil_append]
        rw [fin]
        exact hy z ⟨dz, qz⟩
      · rintro i z hi ⟨dz, qz⟩ hz
        have gz := fl_df_g hg dz
        obtain ⟨y, e195, dy, qy⟩ := fc_195 gz w (fl_SK_nt nt dz) qz hk (p := g (16 + k) + i) (by omega) ⟨wk.1, wk.2.1⟩
        have fin : fl_Rn fl_C 196 59 [some (.ref 211), some (.ref 28), some (.int (Int32.ofNat k)), none, some (.int (Int32.ofNat (g (16 + k) + g (28 + k)))), some (.int (Int32.ofNat (g (16 + k) + i)))] [] z = fl_Rn fl_C 196 59 [some (.ref 211), some (.ref 28), some (.int (Int32.ofNat k)), none, some (.int (Int32.ofNat (g (16 + k) + g (28 + k)))), some (.int (Int32.ofNat (g (16 + k) + (i + 1))))] [] y := by
          rw [show g (16 + k) + (i + 1) = (g (16 + k) + i) + 1 from rfl]
          clear w nt dx qx d0 q0 nx hy dz qz dy qy hz
          generalize g (16 + k) = f0 at *
          generalize g (28 + k) = w0' at *
          rw [fbC_196_59]
          simp (disch := omega) only [gz.1, o211, fl_lit, fl_nadd, fl_nmul, fl_ndiv, fl_nsub, fl_msub, fl_nle, fl_nlt, fl_neq, fl_nclamp, fl_nin, fl_ltT, fl_ltF, fl_leT, fl_leF, fl_eqT, fl_eqF, decide_true, decide_false, Bool.true_and, Bool.and_true, Bool.false_and, Bool.and_false, if_true, if_false, Bool.false_eq_true, Option.isSome_some, Option.getD_some, not_true_eq_false, not_false_eq_true, Option.toList_some, Option.toList_none, List.cons_append, List.nil_append, e195, fbP_196_74]
        rw [fin]
        exact hz y ⟨fl_df_tr dz dy, fl_cqs_cg qy (by rw [fl_jlk, List.append_assoc])⟩
end
