/-! classes, classOf: the reference's side; both alike -/
section
variable {k0 : Nat → Nat × Nat} {h : fl_H} {g : Nat → Nat} {s : Int64} {L : List (Nat × Nat)} {lst : Nat → Nat} {c : Nat × Nat × Nat × Bool}
abbrev fl_S6 (b : Nat) : Prop := b = 276
theorem fr_199a (hg : fl_g k0 h) (m : fl_mm h g) (w : fl_wf g) (q : fl_rqs (fl_i h 276) (2 * (g 0 + g 2)) L lst) {k p : Nat} (hk : k < g 0) (hp : p < g 2) (hs : 1 ≤ g (4 + k) ∧ g (4 + k) ≤ 8) : ∃ y l', fl_cl fl_C 199 [.ref 259, .int (Int32.ofNat k), .int (Int32.ofNat p)] h = fl_Rn fl_C 199 154 [some (.ref 259), none, some (.int (Int32.ofNat p)), none, some (.int (Int32.ofNat (2 * (g 0 + p))))] [] y ∧ fl_fx fl_S6 h y ∧ fl_rqs (fl_i y 276) (2 * (g 0 + g 2)) (L ++ fl_jg g k p) l' := by
  have w0 : g 0 ≤ 12 := w.1.2.2.2.1
  have w2 : g 2 ≤ 20 := w.1.2.2.2.2.1
  have e95 := fr_95 hg m
  have m4 := m (4 + k) (by omega)
  have jg : fl_jg g k p = if g (4 + k) = 1 then [(2 * (g 0 + p), 2 * k + 1), (2 * (g 0 + p) + 1, 2 * k)] else
    if g (4 + k) = 2 then [(2 * (g 0 + p), 2 * k), (2 * (g 0 + p) + 1, 2 * k + 1)] else
    if g (4 + k) = 3 then [(2 * (g 0 + p), 2 * k)] else if g (4 + k) = 6 then [(2 * (g 0 + p), 2 * k + 1)] else
    if g (4 + k) = 4 then [(2 * (g 0 + p) + 1, 2 * k + 1)] else if g (4 + k) = 7 then [(2 * (g 0 + p) + 1, 2 * k)] else [] := rfl
  rw [jg]
  clear jg
  have two : ∀ {a1 b1 a2 b2 : Nat}, a1 < 2 * (g 0 + g 2) → b1 < 2 * (g 0 + g 2) → a2 < 2 * (g 0 + g 2) → b2 < 2 * (g 0 + g 2) → ∃ y1 y2 l', fl_cl fl_C 198 [.ref 259, .int (Int32.ofNat a1), .int (Int32.ofNat b1)] h = some (some none, y1) ∧ fl_g k0 y1 ∧ fl_cl fl_C 198 [.ref 259, .int (Int32.ofNat a2), .int (Int32.ofNat b2)] y1 = some (some none, y2) ∧ fl_fx fl_S6 h y2 ∧ fl_rqs (fl_i y2 276) (2 * (g 0 + g 2)) (L ++ [(a1, b1), (a2, b2)]) l' := fun {a1 b1 a2 b2} h1 h2 h3 h4 => by
    obtain ⟨y1, l1, j1, f1, q1⟩ := fr_198 hg m w q h1 h2
    have g1 := fl_g_fx hg f1
    obtain ⟨y2, l2, j2, f2, q2⟩ := fr_198 g1 (fl_mm_fx m f1 (by omega)) w q1 h3 h4
    refine ⟨y1, y2, l2, j1, g1, j2, fl_fx_tr f1 f2, ?_⟩
    rw [List.append_assoc] at q2
    exact q2
  generalize g (4 + k) = sx at *
  rcases (show sx = 1 ∨ sx = 2 ∨ sx = 3 ∨ sx = 4 ∨ sx = 5 ∨ sx = 6 ∨ sx = 7 ∨ sx = 8 by omega) with e | e | e | e | e | e | e | e <;> subst e
  · rw [if_pos rfl]
    obtain ⟨y1, y2, l', j1, g1, j2, f2, q2⟩ := two (a1 := 2 * (g 0 + p)) (b1 := 2 * k + 1) (a2 := 2 * (g 0 + p) + 1) (b2 := 2 * k) (by omega) (by omega) (by omega) (by omega)
    refine ⟨y2, l', ?_, f2, q2⟩
    clear m w q q2 two f2
    rw [fbE_199]
    simp (disch := omega) only [hg.1, hg.2, g1.1, fl_KM, fl_RM, fl_lit, fl_nadd, fl_nmul, fl_ndiv, fl_nsub, fl_msub, fl_nle, fl_nlt, fl_neq, fl_nclamp, fl_nin, fl_ltT, fl_ltF, fl_leT, fl_leF, fl_eqT, fl_eqF, decide_true, decide_false, Bool.true_and, Bool.and_true, Bool.false_and, Bool.and_false, if_true, if_false, Bool.false_eq_true, Option.isSome_some, Option.getD_some, not_true_eq_false, not_false_eq_true, Option.toList_some, Option.toList_none, List.cons_append, List.nil_append, e95, fbP_199_9, fbC_199_21, m4, fbC_199_22, j1, fbP_199_94, j2, fbP_199_103]
  · rw [if_neg (by omega), if_pos rfl]
    obtain ⟨y1, y2, l', j1, g1, j2, f2, q2⟩ := two (a1 := 2 * (g 0 + p)) (b1 := 2 * k) (a2 := 2 * (g 0 + p) + 1) (b2 := 2 * k + 1) (by omega) (by omega) (by omega) (by omega)
    refine ⟨y2, l', ?_, f2, q2⟩
    clear m w q q2 two f2
    rw [fbE_199]
    simp (disch := omega) only [hg.1, hg.2, g1.1, fl_KM, fl_RM, fl_lit, fl_nadd, fl_nmul, fl_ndiv, fl_nsub, fl_msub, fl_nle, fl_nlt, fl_neq, fl_nclamp, fl_nin, fl_ltT, fl_ltF, fl_leT, fl_leF, fl_eqT, fl_eqF, decide_true, decide_false, Bool.true_and, Bool.and_true, Bool.false_and, Bool.and_false, if_true, if_false, Bool.false_eq_true, Option.isSome_some, Option.getD_some, not_true_eq_false, not_false_eq_true, Option.toList_some, Option.toList_none, List.cons_append, List.nil_append, e95, fbP_199_9, fbC_199_21, m4, fbC_199_22, j1, fbP_199_71, j2, fbP_199_82]
  · rw [if_neg (by omega), if_neg (by omega), if_pos rfl]
    obtain ⟨y1, l1, j1, f1, q1⟩ := fr_198 hg m w q (a := 2 * (g 0 + p)) (b := 2 * k) (by omega) (by omega)
    refine ⟨y1, l1, ?_, f1, q1⟩
    clear m w q q1 two f1
    rw [fbE_199]
    simp (disch := omega) only [hg.1, hg.2, fl_KM, fl_RM, fl_lit, fl_nadd, fl_nmul, fl_ndiv, fl_nsub, fl_msub, fl_nle, fl_nlt, fl_neq, fl_nclamp, fl_nin, fl_ltT, fl_ltF, fl_leT, fl_leF, fl_eqT, fl_eqF, decide_true, decide_false, Bool.true_and, Bool.and_true, Bool.false_and, Bool.and_false, if_true, if_false, Bool.false_eq_true, Option.isSome_some, Option.getD_some, not_true_eq_false, not_false_eq_true, Option.toList_some, Option.toList_none, List.cons_append, List.nil_append, e95, fbP_199_9, fbC_199_21, m4, fbC_199_22, j1, fbP_199_113]
  · rw [if_neg (by omega), if_neg (by omega), if_neg (by omega), if_neg (by omega), if_pos rfl]
    obtain ⟨y1, l1, j1, f1, q1⟩ := fr_198 hg m w q (a := 2 * (g 0 + p) + 1) (b := 2 * k + 1) (by omega) (by omega)
    refine ⟨y1, l1, ?_, f1, q1⟩
    clear m w q q1 two f1
    rw [fbE_199]
    simp (disch := omega) only [hg.1, hg.2, fl_KM, fl_RM, fl_lit, fl_nadd, fl_nmul, fl_ndiv, fl_nsub, fl_msub, fl_nle, fl_nlt, fl_neq, fl_nclamp, fl_nin, fl_ltT, fl_ltF, fl_leT, fl_leF, fl_eqT, fl_eqF, decide_true, decide_false, Bool.true_and, Bool.and_true, Bool.false_and, Bool.and_false, if_true, if_false, Bool.false_eq_true, Option.isSome_some, Option.getD_some, not_true_eq_false, not_false_eq_true, Option.toList_some, Option.toList_none, List.cons_append, List.nil_append, e95, fbP_199_9, fbC_199_21, m4, fbC_199_22, j1, fbP_199_139]
  · rw [if_neg (by omega), if_neg (by omega), if_neg (by omega), if_neg (by omega), if_neg (by omega), if_neg (by omega), List.append_nil]
    refine ⟨h, lst, ?_, fl_fx_rfl, q⟩
    clear m w q two
    rw [fbE_199]
    simp (disch := omega) only [hg.1, hg.2, fl_KM, fl_RM, fl_lit, fl_nadd, fl_nmul, fl_ndiv, fl_nsub, fl_msub, fl_nle, fl_nlt, fl_neq, fl_nclamp, fl_nin, fl_ltT, fl_ltF, fl_leT, fl_leF, fl_eqT, fl_eqF, decide_true, decide_false, Bool.true_and, Bool.and_true, Bool.false_and, Bool.and_false, if_true, if_false, Bool.false_eq_true, Option.isSome_some, Option.getD_some, not_true_eq_false, not_false_eq_true, Option.toList_some, Option.toList_none, List.cons_append, List.nil_append, e95, fbP_199_9, fbC_199_21, m4, fbC_199_22]
  · rw [if_neg (by omega), if_neg (by omega), if_neg (by omega), if_pos rfl]
    obtain ⟨y1, l1, j1, f1, q1⟩ := fr_198 hg m w q (a := 2 * (g 0 + p)) (b := 2 * k + 1) (by omega) (by omega)
    refine ⟨y1, l1, ?_, f1, q1⟩
    clear m w q q1 two f1
    rw [fbE_199]
    simp (disch := omega) only [hg.1, hg.2, fl_KM, fl_RM, fl_lit, fl_nadd, fl_nmul, fl_ndiv, fl_nsub, fl_msub, fl_nle, fl_nlt, fl_neq, fl_nclamp, fl_nin, fl_ltT, fl_ltF, fl_leT, fl_leF, fl_eqT, fl_eqF, decide_true, decide_false, Bool.true_and, Bool.and_true, Bool.false_and, Bool.and_false, if_true, if_false, Bool.false_eq_true, Option.isSome_some, Option.getD_some, not_true_eq_false, not_false_eq_true, Option.toList_some, Option.toList_none, List.cons_append, List.nil_append, e95, fbP_199_9, fbC_199_21, m4, fbC_199_22, j1, fbP_199_125]
  · rw [if_neg (by omega), if_neg (by omega), if_neg (by omega), if_neg (by omega), if_neg (by omega), if_pos rfl]
    obtain ⟨y1, l1, j1, f1, q1⟩ := fr_198 hg m w q (a := 2 * (g 0 + p) + 1) (b := 2 * k) (by omega) (by omega)
    refine ⟨y1, l1, ?_, f1, q1⟩
    clear m w q q1 two f1
    rw [fbE_199]
    simp (disch := omega) only [hg.1, hg.2, fl_KM, fl_RM, fl_lit, fl_nadd, fl_nmul, fl_ndiv, fl_nsub, fl_msub, fl_nle, fl_nlt, fl_neq, fl_nclamp, fl_nin, fl_ltT, fl_ltF, fl_leT, fl_leF, fl_eqT, fl_eqF, decide_true, decide_false, Bool.true_and, Bool.and_true, Bool.false_and, Bool.and_false, if_true, if_false, Bool.false_eq_true, Option.isSome_some, Option.getD_some, not_true_eq_false, not_false_eq_true, Option.toList_some, Option.toList_none, List.cons_append, List.nil_append, e95, fbP_199_9, fbC_199_21, m4, fbC_199_22, j1, fbP_199_151]
  · rw [if_neg (by omega), if_neg (by omega), if_neg (by omega), if_neg (by omega), if_neg (by omega), if_neg (by omega), List.append_nil]
    refine ⟨h, lst, ?_, fl_fx_rfl, q⟩
    clear m w q two
    rw [fbE_199]
    simp (disch := omega) only [hg.1, hg.2, fl_KM, fl_RM, fl_lit, fl_nadd, fl_nmul, fl_ndiv, fl_nsub, fl_msub, fl_nle, fl_nlt, fl_neq, fl_nclamp, fl_nin, fl_ltT, fl_ltF, fl_leT, fl_leF, fl_eqT, fl_eqF, decide_true, decide_false, Bool.true_and, Bool.and_true, Bool.false_and, Bool.and_false, if_true, if_false, Bool.false_eq_true, Option.isSome_some, Option.getD_some, not_true_eq_false, not_false_eq_true, Option.toList_some, Option.toList_none, List.cons_append, List.nil_append, e95, fbP_199_9, fbC_199_21, m4, fbC_199_22]
theorem fr_199b (hg : fl_g k0 h) (m : fl_mm h g) (w : fl_wf g) (q : fl_rqs (fl_i h 276) (2 * (g 0 + g 2)) L lst) {p : Nat} (hp : p < g 2) : ∃ y l', fl_Rn fl_C 199 154 [some (.ref 259), none, some (.int (Int32.ofNat p)), none, some (.int (Int32.ofNat (2 * (g 0 + p))))] [] h = some (some none, y) ∧ fl_fx fl_S6 h y ∧ fl_rqs (fl_i y 276) (2 * (g 0 + g 2)) (L ++ fl_jr g p) l' := by
  have w0 : g 0 ≤ 12 := w.1.2.2.2.1
  have w2 : g 2 ≤ 20 := w.1.2.2.2.2.1
  have w3 : g 3 ≤ 4 := w.1.2.2.2.2.2.2.1
  have wb := w.2.2.2.2.2.2.2.2.1
  have lr : g (52 + p) < g 0 := w.2.2.2.2.1 p hp
  have m52 := m (52 + p) (by omega)
  have e99 := fr_99 hg m wb w2 (k := g (52 + p)) (by omega)
  have e98 := fr_98 hg m wb w3 (k := g (52 + p)) (by omega)
  have cl := fl_cnt_le (q := fun q => decide (g (52 + q) = g (52 + p))) (g 2)
  by_cases c1 : fl_cnt (fun q => decide (g (52 + q) = g (52 + p))) (g 2) = 1
  · rw [c1] at e99
    cases c2 : fl_any (fun j => decide (g (72 + j) = g (52 + p))) (g 3) with
    | true =>
      rw [c2, if_pos rfl] at e98
      rw [fl_jr_n (fun y => by rw [c2] at y; cases y.2), List.append_nil]
      refine ⟨h, lst, ?_, fl_fx_rfl, q⟩
      clear m w q wb
      generalize g (52 + p) = r at *
      rw [fbC_199_154]
      simp (disch := omega) only [hg.1, hg.2, fl_KM, fl_RM, fl_lit, fl_nadd, fl_nmul, fl_ndiv, fl_nsub, fl_msub, fl_nle, fl_nlt, fl_neq, fl_nclamp, fl_nin, fl_ltT, fl_ltF, fl_leT, fl_leF, fl_eqT, fl_eqF, decide_true, decide_false, Bool.true_and, Bool.and_true, Bool.false_and, Bool.and_false, if_true, if_false, Bool.false_eq_true, Option.isSome_some, Option.getD_some, not_true_eq_false, not_false_eq_true, Option.toList_some, Option.toList_none, List.cons_append, List.nil_append, fbC_199_162, m52, fbC_199_163, e99, fbP_199_171, e98, fbP_199_181, fbC_199_208]
    | false =>
      rw [c2, if_neg (by decide)] at e98
      rw [fl_jr_y ⟨c1, c2⟩]
      obtain ⟨y1, l1, j1, f1, q1⟩ := fr_198 hg m w q (a := 2 * (g 0 + p)) (b := 2 * g (52 + p)) (by omega) (by omega)
      have g1 := fl_g_fx hg f1
      have q1' := fl_rqs_cg (M := L ++ [(2 * g (52 + p), 2 * (g 0 + p))]) (fun a b => fl_eqv_sw) q1
      obtain ⟨y2, l2, j2, f2, q2⟩ := fr_198 g1 (fl_mm_fx m f1 (by omega)) w q1' (a := 2 * (g 0 + p) + 1) (b := 2 * g (52 + p) + 1) (by omega) (by omega)
      have q2' := fl_rqs_cg (M := (L ++ [(2 * g (52 + p), 2 * (g 0 + p))]) ++ [(2 * g (52 + p) + 1, 2 * (g 0 + p) + 1)]) (fun a b => fl_eqv_sw) q2
      refine ⟨y2, l2, ?_, fl_fx_tr f1 f2, by rw [List.append_assoc] at q2'; exact q2'⟩
      clear m w q wb q1 q1' q2 q2' f1 f2
      generalize g (52 + p) = r at *
      rw [fbC_199_154]
      simp (disch := omega) only [hg.1, hg.2, g1.1, fl_KM, fl_RM, fl_lit, fl_nadd, fl_nmul, fl_ndiv, fl_nsub, fl_msub, fl_nle, fl_nlt, fl_neq, fl_nclamp, fl_nin, fl_ltT, fl_ltF, fl_leT, fl_leF, fl_eqT, fl_eqF, decide_true, decide_false, Bool.true_and, Bool.and_true, Bool.false_and, Bool.and_false, if_true, if_false, Bool.false_eq_true, Option.isSome_some, Option.getD_some, not_true_eq_false, not_false_eq_true, Option.toList_some, Option.toList_none, List.cons_append, List.nil_append, fbC_199_162, m52, fbC_199_163, e99, fbP_199_171, e98, fbP_199_181, j1, fbP_199_194, j2, fbP_199_208, fbC_199_208]
  · rw [fl_jr_n (fun y => c1 y.1), List.append_nil]
    refine ⟨h, lst, ?_, fl_fx_rfl, q⟩
    clear m w q wb e98
    generalize fl_cnt (fun q => decide (g (52 + q) = g (52 + p))) (g 2) = CN at *
    generalize g (52 + p) = r at *
    rw [fbC_199_154]
    simp (disch := omega) only [hg.1, hg.2, fl_KM, fl_RM, fl_lit, fl_nadd, fl_nmul, fl_ndiv, fl_nsub, fl_msub, fl_nle, fl_nlt, fl_neq, fl_nclamp, fl_nin, fl_ltT, fl_ltF, fl_leT, fl_leF, fl_eqT, fl_eqF, decide_true, decide_false, Bool.true_and, Bool.and_true, Bool.false_and, Bool.and_false, if_true, if_false, Bool.false_eq_true, Option.isSome_some, Option.getD_some, not_true_eq_false, not_false_eq_true, Option.toList_some, Option.toList_none, List.cons_append, List.nil_append, fbC_199_162, m52, fbC_199_163, e99, fbP_199_171, fbC_199_208]
theorem fr_200 (hg : fl_g k0 h) (m : fl_mm h g) (w : fl_wf g) : fl_to (fl_cl fl_C 200 [.ref 259] h) (fun v y => v = none ∧ fl_fx fl_S6 h y ∧ ∃ l', fl_rqs (fl_i y 276) (2 * (g 0 + g 2)) (fl_JR g) l') := by
  have w0 : g 0 ≤ 12 := w.1.2.2.2.1
  have w2 : g 2 ≤ 20 := w.1.2.2.2.2.1
  have e0 : h = fl_wi h 276 (fl_ar 0 (fun f => f) (fl_i h 276)) := by rw [fl_ar_0, fl_wi_self rfl]
  have lp := fl_iter (fun f => fl_Rn fl_C 200 2 [some (.ref 259), some (.int (Int32.ofNat f))] [] (fl_wi h 276 (fl_ar f (fun f => f) (fl_i h 276)))) (2 * (g 0 + g 2)) (fun f hf => by
    have gx : fl_g k0 (fl_wi h 276 (fl_ar f (fun f => f) (fl_i h 276))) := ⟨by rw [fl_k_wi]; exact hg.1, by rw [fl_r_wi]; exact hg.2⟩
    have e88 := fr_88 gx (fun j hj => by rw [fl_i_wi, if_neg (by omega)]; exact m j hj : fl_mm (fl_wi h 276 (fl_ar f (fun f => f) (fl_i h 276))) g)
    have ar := fl_ar_succ (k := f) (f := fun f => f) (old := fl_i h 276)
    try dsimp only at ar
    clear m w e0
    try dsimp only
    rw [← ar]
    generalize fl_ar f (fun f => f) (fl_i h 276) = A at *
    rw [fbC_200_2]
    simp (disch := omega) only [fl_k_wl, fl_r_wl, fl_i_wl, fl_l_wl, fl_1_wl, fl_k_wi, fl_r_wi, fl_l_wi, fl_1_wi, fl_i_wi, fl_k_si, fl_r_si, fl_l_si, fl_k_sl, fl_r_sl, fl_i_sl, fl_up_self, fl_up_ne, fl_si_wi, fl_sl_wl, fl_wi_wi, fl_wl_wl, hg.1, hg.2, fl_KM, fl_RM, fl_lit, fl_nadd, fl_nmul, fl_ndiv, fl_nsub, fl_msub, fl_nle, fl_nlt, fl_neq, fl_nclamp, fl_nin, fl_ltT, fl_ltF, fl_leT, fl_leF, fl_eqT, fl_eqF, decide_true, decide_false, Bool.true_and, Bool.and_true, Bool.false_and, Bool.and_false, if_true, if_false, Bool.false_eq_true, Option.isSome_some, Option.getD_some, not_true_eq_false, not_false_eq_true, Option.toList_some, Option.toList_none, List.cons_append, List.nil_append, e88, fbP_200_7, fbC_200_17])
  have f0 : fl_fx fl_S6 h (fl_wi h 276 (fl_ar (2 * (g 0 + g 2)) (fun f => f) (fl_i h 276))) := fl_fx_wi fl_fx_rfl rfl
  have q0 : fl_rqs (fl_i (fl_wi h 276 (fl_ar (2 * (g 0 + g 2)) (fun f => f) (fl_i h 276))) 276) (2 * (g 0 + g 2)) (fl_jla g (fun k p => fl_jg g k p ++ fl_jr g p) 0) (fun f => f) := ⟨fun f hf => ⟨by rw [fl_i_wi, if_pos rfl, fl_ar_lt hf], Nat.le_refl f, fl_eqv_rfl f⟩, fun f c _ _ z => fl_eqv_nil.mp z⟩
  have st : fl_cl fl_C 200 [.ref 259] h = fl_Rn fl_C 200 25 [some (.ref 259), some (.int (Int32.ofNat 0))] [] (fl_wi h 276 (fl_ar (2 * (g 0 + g 2)) (fun f => f) (fl_i h 276))) := by
    try dsimp only at lp
    rw [← e0] at lp
    rw [fbE_200]
    refine lp.trans ?_
    have gx := fl_g_fx hg f0
    have e88 := fr_88 gx (fl_mm_fx m f0 (by omega))
    clear m w lp e0 f0 q0
    generalize fl_wi h 276 (fl_ar (2 * (g 0 + g 2)) (fun f => f) (fl_i h 276)) = X at *
    rw [fbC_200_2]
    simp (disch := omega) only [gx.1, fl_KM, fl_RM, fl_lit, fl_nadd, fl_nmul, fl_ndiv, fl_nsub, fl_msub, fl_nle, fl_nlt, fl_neq, fl_nclamp, fl_nin, fl_ltT, fl_ltF, fl_leT, fl_leF, fl_eqT, fl_eqF, decide_true, decide_false, Bool.true_and, Bool.and_true, Bool.false_and, Bool.and_false, if_true, if_false, Bool.false_eq_true, Option.isSome_some, Option.getD_some, not_true_eq_false, not_false_eq_true, Option.toList_some, Option.toList_none, List.cons_append, List.nil_append, e88, fbP_200_7]
  rw [st]
  clear st lp e0
  generalize fl_wi h 276 (fl_ar (2 * (g 0 + g 2)) (fun f => f) (fl_i h 276)) = X0 at *
  refine fl_loopT (F := fun k x => fl_Rn fl_C 200 25 [some (.ref 259), some (.int (Int32.ofNat k))] [] x) (fun k x => fl_fx fl_S6 h x ∧ ∃ l', fl_rqs (fl_i x 276) (2 * (g 0 + g 2)) (fl_jla g (fun k p => fl_jg g k p ++ fl_jr g p) k) l') (g 0) ?_ ?_ 0 X0 (Nat.zero_le _) ⟨f0, _, q0⟩
  · rintro x ⟨fx, qx⟩
    have gx := fl_g_fx hg fx
    have e95 := fr_95 gx (fl_mm_fx m fx (by omega))
    have fin : fl_Rn fl_C 200 25 [some (.ref 259), some (.int (Int32.ofNat (g 0)))] [] x = some (some none, x) := by
      clear m w fx qx f0 q0
      rw [fbC_200_25]
      simp (disch := omega) only [gx.1, fl_KM, fl_RM, fl_lit, fl_nadd, fl_nmul, fl_ndiv, fl_nsub, fl_msub, fl_nle, fl_nlt, fl_neq, fl_nclamp, fl_nin, fl_ltT, fl_ltF, fl_leT, fl_leF, fl_eqT, fl_eqF, decide_true, decide_false, Bool.true_and, Bool.and_true, Bool.false_and, Bool.and_false, if_true, if_false, Bool.false_eq_true, Option.isSome_some, Option.getD_some, not_true_eq_false, not_false_eq_true, Option.toList_some, Option.toList_none, List.cons_append, List.nil_append, e95, fbP_200_30]
    exact ⟨_, _, fin, rfl, fx, qx⟩
  · rintro k x hk ⟨fx, qx⟩ hy
    have gx := fl_g_fx hg fx
    have mx := fl_mm_fx m fx (by omega)
    have e95 := fr_95 gx mx
    have m16 := mx (16 + k) (by omega)
    have b16 : g (16 + k) + g (28 + k) ≤ 20 ∧ g (28 + k) ≤ 3 := by
      by_cases l : k < g 1
      · have := w.2.1 k l; omega
      · have := w.2.2.1 k (by omega) hk; omega
    have st : fl_Rn fl_C 200 25 [some (.ref 259), some (.int (Int32.ofNat k))] [] x = fl_Rn fl_C 200 43 [some (.ref 259), some (.int (Int32.ofNat k)), some (.int (Int32.ofNat (g (16 + k) + 0)))] [] x := by
      rw [Nat.add_zero]
      clear m w fx qx f0 q0 mx hy
      rw [fbC_200_25]
      simp (disch := omega) only [gx.1, gx.2, fl_KM, fl_RM, fl_lit, fl_nadd, fl_nmul, fl_ndiv, fl_nsub, fl_msub, fl_nle, fl_nlt, fl_neq, fl_nclamp, fl_nin, fl_ltT, fl_ltF, fl_leT, fl_leF, fl_eqT, fl_eqF, decide_true, decide_false, Bool.true_and, Bool.and_true, Bool.false_and, Bool.and_false, if_true, if_false, Bool.false_eq_true, Option.isSome_some, Option.getD_some, not_true_eq_false, not_false_eq_true, Option.toList_some, Option.toList_none, List.cons_append, List.nil_append, e95, fbP_200_30, fbC_200_41, m16, fbC_200_42]
    rw [st]
    refine fl_loopT (F := fun i x => fl_Rn fl_C 200 43 [some (.ref 259), some (.int (Int32.ofNat k)), some (.int (Int32.ofNat (g (16 + k) + i)))] [] x) (fun i x => fl_fx fl_S6 h x ∧ ∃ l', fl_rqs (fl_i x 276) (2 * (g 0 + g 2)) (fl_jla g (fun k p => fl_jg g k p ++ fl_jr g p) k ++ fl_jlk g (fun k p => fl_jg g k p ++ fl_jr g p) k i) l') (g (28 + k)) ?_ ?_ 0 x (Nat.zero_le _) ⟨fx, by obtain ⟨l', q⟩ := qx; exact ⟨l', fl_rqs_cg (fun a b => by rw [show fl_jlk g (fun k p => fl_jg g k p ++ fl_jr g p) k 0 = [] from rfl, List.append_nil]) q⟩⟩
    · rintro z ⟨fz, qz⟩
      have gz := fl_g_fx hg fz
      have mz := fl_mm_fx m fz (by omega)
      have z16 := mz (16 + k) (by omega)
      have z28 := mz (28 + k) (by omega)
      have fin : fl_Rn fl_C 200 43 [some (.ref 259), some (.int (Int32.ofNat k)), some (.int (Int32.ofNat (g (16 + k) + g (28 + k))))] [] z = fl_Rn fl_C 200 25 [some (.ref 259), some (.int (Int32.ofNat (k + 1)))] [] z := by
        clear m w fx qx f0 q0 mx hy fz qz mz
        rw [fbC_200_43]
        simp (disch := omega) only [gz.1, gz.2, fl_KM, fl_RM, fl_lit, fl_nadd, fl_nmul, fl_ndiv, fl_nsub, fl_msub, fl_nle, fl_nlt, fl_neq, fl_nclamp, fl_nin, fl_ltT, fl_ltF, fl_leT, fl_leF, fl_eqT, fl_eqF, decide_true, decide_false, Bool.true_and, Bool.and_true, Bool.false_and, Bool.and_false, if_true, if_false, Bool.false_eq_true, Option.isSome_some, Option.getD_some, not_true_eq_false, not_false_eq_true, Option.toList_some, Option.toList_none, List.cons_append, List.nil_append, fbC_200_52, z16, fbC_200_53, fbC_200_61, z28, fbC_200_62]
      rw [fin]
      exact hy z ⟨fz, qz⟩
    · rintro i z hi ⟨fz, l0, qz⟩ hz
      have gz := fl_g_fx hg fz
      have mz := fl_mm_fx m fz (by omega)
      have z16 := mz (16 + k) (by omega)
      have z28 := mz (28 + k) (by omega)
      have wd := fl_wdt w hk hi
      have wk := w.2.2.1 k wd.1 hk
      obtain ⟨y1, l1, ea, fa, qa⟩ := fr_199a gz mz w qz hk (p := g (16 + k) + i) wd.2 ⟨wk.1, wk.2.1⟩
      have g1 := fl_g_fx gz fa
      obtain ⟨y2, l2, eb, fb, qb⟩ := fr_199b g1 (fl_mm_fx mz fa (by omega)) w qa (p := g (16 + k) + i) wd.2
      have e199 := ea.trans eb
      have fin : fl_Rn fl_C 200 43 [some (.ref 259), some (.int (Int32.ofNat k)), some (.int (Int32.ofNat (g (16 + k) + i)))] [] z = fl_Rn fl_C 200 43 [some (.ref 259), some (.int (Int32.ofNat k)), some (.int (Int32.ofNat (g (16 + k) + (i + 1))))] [] y2 := by
        rw [show g (16 + k) + (i + 1) = (g (16 + k) + i) + 1 from rfl]
        clear m w fx qx f0 q0 mx hy fz qz mz hz ea eb fa fb qa qb wk
        generalize g (16 + k) = f0 at *
        generalize g (28 + k) = w0' at *
        rw [fbC_200_43]
        simp (disch := omega) only [gz.1, gz.2, fl_KM, fl_RM, fl_lit, fl_nadd, fl_nmul, fl_ndiv, fl_nsub, fl_msub, fl_nle, fl_nlt, fl_neq, fl_nclamp, fl_nin, fl_ltT, fl_ltF, fl_leT, fl_leF, fl_eqT, fl_eqF, decide_true, decide_false, Bool.true_and, Bool.and_true, Bool.false_and, Bool.and_false, if_true, if_false, Bool.false_eq_true, Option.isSome_some, Option.getD_some, not_true_eq_false, not_false_eq_true, Option.toList_some, Option.toList_none, List.cons_append, List.nil_append, fbC_200_52, z16, fbC_200_53, fbC_200_61, z28, fbC_200_62, e199, fbP_200_72]
      rw [fin]
      exact hz y2 ⟨fl_fx_tr fz (fl_fx_tr fa fb), l2, fl_rqs_cg (fun a b => by rw [fl_jlk, List.append_assoc, List.append_assoc]) qb⟩
/-- the class of a least one -/
theorem fr_201 (hg : fl_g k0 h) (m : fl_mm h g) (w : fl_wf g) (q : fl_rqs (fl_i h 276) (2 * (g 0 + g 2)) L lst) {f : Nat} (hf : f < 64) : fl_cl fl_C 201 [.ref 259, .int (Int32.ofNat f)] h = some (some (some (.long (fl_bs (fun c => decide (lst c = f)) (2 * (g 0 + g 2))))), h) := by
  have w0 : g 0 ≤ 12 := w.1.2.2.2.1
  have w2 : g 2 ≤ 20 := w.1.2.2.2.2.1
  have e88 := fr_88 hg m
  have lp := fl_iter (fun c => fl_Rn fl_C 201 5 [some (.ref 259), some (.int (Int32.ofNat f)), some (.long (fl_bs (fun c => decide (lst c = f)) c)), none, some (.int (Int32.ofNat c))] [] h) (2 * (g 0 + g 2)) (fun c hc => by
    have qc := q.1 c hc
    have i276 := qc.1
    have lc : lst c < 64 := by omega
    clear m w q qc
    try dsimp only
    rw [fl_bs]
    generalize fl_bs (fun c => decide (lst c = f)) c = BB at *
    by_cases z : lst c = f
    · rw [decide_eq_true z, if_pos rfl]
      rw [z] at i276
      rw [fbC_201_5]
      simp (disch := omega) only [hg.1, hg.2, fl_KM, fl_RM, fl_lit, fl_nadd, fl_nmul, fl_ndiv, fl_nsub, fl_msub, fl_nle, fl_nlt, fl_neq, fl_nclamp, fl_nin, fl_ltT, fl_ltF, fl_leT, fl_leF, fl_eqT, fl_eqF, decide_true, decide_false, Bool.true_and, Bool.and_true, Bool.false_and, Bool.and_false, if_true, if_false, Bool.false_eq_true, Option.isSome_some, Option.getD_some, not_true_eq_false, not_false_eq_true, Option.toList_some, Option.toList_none, List.cons_append, List.nil_append, e88, fbP_201_11, i276, fbC_201_22]
    · rw [decide_eq_false z, if_neg (by decide), fbC_201_5]
      simp (disch := omega) only [hg.1, hg.2, fl_KM, fl_RM, fl_lit, fl_nadd, fl_nmul, fl_ndiv, fl_nsub, fl_msub, fl_nle, fl_nlt, fl_neq, fl_nclamp, fl_nin, fl_ltT, fl_ltF, fl_leT, fl_leF, fl_eqT, fl_eqF, decide_true, decide_false, Bool.true_and, Bool.and_true, Bool.false_and, Bool.and_false, if_true, if_false, Bool.false_eq_true, Option.isSome_some, Option.getD_some, not_true_eq_false, not_false_eq_true, Option.toList_some, Option.toList_none, List.cons_append, List.nil_append, e88, fbP_201_11, i276, fbC_201_22])
  rw [fbE_201]
  refine lp.trans ?_
  try dsimp only
  clear m w q lp
  rw [fbC_201_5]
  simp (disch := omega) only [hg.1, fl_KM, fl_RM, fl_lit, fl_nadd, fl_nmul, fl_ndiv, fl_nsub, fl_msub, fl_nle, fl_nlt, fl_neq, fl_nclamp, fl_nin, fl_ltT, fl_ltF, fl_leT, fl_leF, fl_eqT, fl_eqF, decide_true, decide_false, Bool.true_and, Bool.and_true, Bool.false_and, Bool.and_false, if_true, if_false, Bool.false_eq_true, Option.isSome_some, Option.getD_some, not_true_eq_false, not_false_eq_true, Option.toList_some, Option.toList_none, List.cons_append, List.nil_append, e88, fbP_201_11]
/-- both sorts of cells say the same -/
theorem fl_cq_rq {A : Nat → Int64} {B : Nat → Int32} (w : fl_wf g) (qA : fl_cqs A (fl_JC g)) (qB : fl_rqs B (2 * (g 0 + g 2)) (fl_JR g) lst) {f : Nat} (hf : f < 2 * (g 0 + g 2)) : fl_bs (fun c => decide (lst c = lst f)) (2 * (g 0 + g 2)) = A f ∧ (fl_any (fl_hb (A f)) f = false ↔ lst f = f) := by
  have w0 : g 0 ≤ 12 := w.1.2.2.2.1
  have w2 : g 2 ≤ 20 := w.1.2.2.2.2.1
  have iff : ∀ c, c < 64 → (fl_hb (A f) c = true ↔ (c < 2 * (g 0 + g 2) ∧ lst c = lst f)) := fun c hc => by
    rw [qA f c (by omega) hc]
    constructor
    · intro z
      have lc := fl_JC_lt w z hf
      exact ⟨lc, (qB.2 f c hf lc ((fl_JCR w).mp z)).symm⟩
    · rintro ⟨lc, e⟩
      have e1 := (qB.1 f hf).2.2
      have e2 := (qB.1 c lc).2.2
      rw [e] at e2
      exact (fl_JCR w).mpr (fl_eqv_tr e1 (fl_eqv_sy e2))
  refine ⟨fl_hb_ext (fun c hc => ?_), ?_⟩
  · rw [fl_hb_bs _ (by omega) hc, Bool.eq_iff_iff, iff c hc, Bool.and_eq_true, decide_eq_true_iff, decide_eq_true_iff]
  · constructor
    · intro z
      apply Classical.byContradiction
      intro ne
      have lf := (qB.1 f hf).2.1
      have l1 : lst f < f := by omega
      have := fl_any_none z l1
      have t : fl_hb (A f) (lst f) = true := (iff (lst f) (by omega)).mpr ⟨by omega, (qB.2 f (lst f) hf (by omega) (qB.1 f hf).2.2).symm⟩
      rw [t] at this; cases this
    · intro e
      refine fl_any_ff (fun c hc => ?_)
      cases z : fl_hb (A f) c with
      | false => rfl
      | true =>
        have := (iff c (by omega)).mp z
        have lc := (qB.1 c this.1).2.1
        omega
theorem fo_classes_b (hg : fl_g k0 h) (m : fl_mm h g) (w : fl_wf g) {A : Nat → Int64} (qA : fl_cqs A (fl_JC g)) : ∃ y, fl_df fl_scr h y ∧ fl_cl fl_C 202 [.ref 259] h = some (some (some (.int (Int32.ofNat (fl_cfo A (2 * (g 0 + g 2))).1))), fl_ra1 y (fl_cfo A (2 * (g 0 + g 2))).2) := by
  have w0 : g 0 ≤ 12 := w.1.2.2.2.1
  have w2 : g 2 ≤ 20 := w.1.2.2.2.2.1
  have q0 := fl_qt_0 (h := h) (x := Int32.ofNat 0)
  have g0 := fl_qo_g hg (fl_qt_qo q0)
  have m0 := fl_qo_mm m (fl_qt_qo q0)
  obtain ⟨v, y, e200, rfl, fy, lst, qy⟩ := fr_200 g0 m0 w
  have gy := fl_g_fx g0 fy
  have my := fl_mm_fx m0 fy (by omega)
  have e88 := fr_88 gy my
  refine ⟨y, fl_df_tr (fl_df_qt q0 (fun q j z => z)) (fl_df_fx fy (fun q j z => Or.inl (by omega))), ?_⟩
  have st : fl_cl fl_C 202 [.ref 259] h = fl_Rn fl_C 202 16 [some (.ref 259), some (.int (Int32.ofNat (fl_cfo A 0).1)), some (.long (fl_cfo A 0).2), none, some (.int (Int32.ofNat 0))] [] y := by
    rw [show fl_cfo A 0 = (0, 0) from rfl]
    clear m m0 my w fy qy qA q0
    rw [fbE_202]
    simp (disch := omega) only [fl_k_wl, fl_r_wl, fl_i_wl, fl_l_wl, fl_1_wl, fl_k_wi, fl_r_wi, fl_l_wi, fl_1_wi, fl_i_wi, fl_k_si, fl_r_si, fl_l_si, fl_k_sl, fl_r_sl, fl_i_sl, fl_up_self, fl_up_ne, fl_si_wi, fl_sl_wl, fl_wi_wi, fl_wl_wl, hg.1, g0.1, fl_KM, fl_RM, fl_lit, fl_nadd, fl_nmul, fl_ndiv, fl_nsub, fl_msub, fl_nle, fl_nlt, fl_neq, fl_nclamp, fl_nin, fl_ltT, fl_ltF, fl_leT, fl_leF, fl_eqT, fl_eqF, decide_true, decide_false, Bool.true_and, Bool.and_true, Bool.false_and, Bool.and_false, if_true, if_false, Bool.false_eq_true, Option.isSome_some, Option.getD_some, not_true_eq_false, not_false_eq_true, Option.toList_some, Option.toList_none, List.cons_append, List.nil_append, fbC_202_5, e200, fbP_202_9]
  have lp := fl_iter (fun f => fl_Rn fl_C 202 16 [some (.ref 259), some (.int (Int32.ofNat (fl_cfo A f).1)), some (.long (fl_cfo A f).2), none, some (.int (Int32.ofNat f))] [] y) (2 * (g 0 + g 2)) (fun f hf => by
    have br := fl_cq_rq w qA qy hf
    have qf := qy.1 f hf
    have i276 := qf.1
    have c1 := fl_cnt_le (q := fl_hb (A f)) 64
    have c2 := fl_cnt_le (q := fl_hb (fl_cfo A f).2) 64
    have b1 := fr_144 (h := y) (A f)
    have b2 := fr_144 (h := y) (fl_cfo A f).2
    have cl := fl_cfo_le (A := A) f
    try dsimp only
    rw [fl_cfo]
    by_cases z : lst f = f
    · have e201 := fr_201 gy my w qy (f := f) (by omega)
      have br1 := br.1
      rw [z] at br1 i276
      rw [br1] at e201
      rw [if_neg (by rw [br.2.mpr z]; decide)]
      clear m m0 my w fy qy qA q0 br qf br1 st
      generalize fl_cfo A f = C at *
      generalize fl_cnt (fl_hb C.2) 64 = n2 at *
      generalize fl_cnt (fl_hb (A f)) 64 = n1 at *
      by_cases c : n2 < n1
      · rw [if_pos c, fbC_202_16]
        simp (disch := omega) only [gy.1, gy.2, fl_KM, fl_RM, fl_lit, fl_nadd, fl_nmul, fl_ndiv, fl_nsub, fl_msub, fl_nle, fl_nlt, fl_neq, fl_nclamp, fl_nin, fl_ltT, fl_ltF, fl_leT, fl_leF, fl_eqT, fl_eqF, decide_true, decide_false, Bool.true_and, Bool.and_true, Bool.false_and, Bool.and_false, if_true, if_false, Bool.false_eq_true, Option.isSome_some, Option.getD_some, not_true_eq_false, not_false_eq_true, Option.toList_some, Option.toList_none, List.cons_append, List.nil_append, e88, fbP_202_22, i276, fbC_202_32, e201, fbP_202_49, b1, fbP_202_52, b2, fbP_202_56, fbP_202_65, fbC_202_70]
      · rw [if_neg c, fbC_202_16]
        simp (disch := omega) only [gy.1, gy.2, fl_KM, fl_RM, fl_lit, fl_nadd, fl_nmul, fl_ndiv, fl_nsub, fl_msub, fl_nle, fl_nlt, fl_neq, fl_nclamp, fl_nin, fl_ltT, fl_ltF, fl_leT, fl_leF, fl_eqT, fl_eqF, decide_true, decide_false, Bool.true_and, Bool.and_true, Bool.false_and, Bool.and_false, if_true, if_false, Bool.false_eq_true, Option.isSome_some, Option.getD_some, not_true_eq_false, not_false_eq_true, Option.toList_some, Option.toList_none, List.cons_append, List.nil_append, e88, fbP_202_22, i276, fbC_202_32, e201, fbP_202_49, b1, fbP_202_52, b2, fbP_202_56, fbC_202_70]
    · have za : fl_any (fl_hb (A f)) f = true := by
        cases y : fl_any (fl_hb (A f)) f with
        | true => rfl
        | false => exact absurd (br.2.mp y) z
      have lf : lst f < 64 := by omega
      rw [if_pos za]
      clear m m0 my w fy qy qA q0 br qf st b1 b2 c1 c2
      generalize fl_cfo A f = C at *
      rw [fbC_202_16]
      simp (disch := omega) only [gy.1, gy.2, fl_KM, fl_RM, fl_lit, fl_nadd, fl_nmul, fl_ndiv, fl_nsub, fl_msub, fl_nle, fl_nlt, fl_neq, fl_nclamp, fl_nin, fl_ltT, fl_ltF, fl_leT, fl_leF, fl_eqT, fl_eqF, decide_true, decide_false, Bool.true_and, Bool.and_true, Bool.false_and, Bool.and_false, if_true, if_false, Bool.false_eq_true, Option.isSome_some, Option.getD_some, not_true_eq_false, not_false_eq_true, Option.toList_some, Option.toList_none, List.cons_append, List.nil_append, e88, fbP_202_22, i276, fbC_202_32, fbC_202_70])
  rw [st, lp]
  try dsimp only
  have t1 := fr_ra1 gy (fl_cfo A (2 * (g 0 + g 2))).2
  have ga := fl_a0_g gy
  clear m m0 my w fy qy qA q0 st lp
  generalize fl_ra1 y (fl_cfo A (2 * (g 0 + g 2))).2 = H1 at *
  generalize fl_cfo A (2 * (g 0 + g 2)) = C at *
  rw [fbC_202_16]
  simp (disch := omega) only [fl_si_wi, fl_a0_w, gy.1, ga.1, fl_KM, fl_RM, fl_lit, fl_nadd, fl_nmul, fl_ndiv, fl_nsub, fl_msub, fl_nle, fl_nlt, fl_neq, fl_nclamp, fl_nin, fl_ltT, fl_ltF, fl_leT, fl_leF, fl_eqT, fl_eqF, decide_true, decide_false, Bool.true_and, Bool.and_true, Bool.false_and, Bool.and_false, if_true, if_false, Bool.false_eq_true, Option.isSome_some, Option.getD_some, not_true_eq_false, not_false_eq_true, Option.toList_some, Option.toList_none, List.cons_append, List.nil_append, e88, fbP_202_22, fbC_202_81, t1, fbP_202_86]
theorem fo_classes (I : fl_Inv k0 c h) : fl_both k0 c 197 202 [] [] h := by
  obtain ⟨rn, rv, iO⟩ := I.2.2.2.1
  obtain ⟨g, g1, g2, b1, b2, r, s1, s2, iG⟩ := I.2.2.2.2.2
  have w := iG.1
  obtain ⟨y, A, dy, qA, a⟩ := fo_classes_a I.1 w iG.2.2.2.1 iO.2.2.1
  have d1 : fl_df (fun q j => (144 ≤ q ∧ q ≤ 258) ∨ fl_Sc6 q j) h (fl_ca1 y (fl_cfo A (2 * (g 0 + g 2))).2) := fl_df_tr (fl_df_mo dy (fun q j z => Or.inl (by omega))) (fl_df_mo fl_ca1_df (fun q j z => Or.inr z))
  obtain ⟨z, dz, b⟩ := fo_classes_b (fl_df_g I.1 d1) (fun j hj => by rw [(d1.2.2.2 262 j (by omega)).1]; exact iG.2.1 j hj) w qA
  exact fo_tell1 I a (fl_df_mo dy (fun q j z => by omega)) b dz
theorem fo_classOf_b0 (hg : fl_g k0 h) (m : fl_mm h g) (w : fl_wf g) {p : Int32} (np : ¬ fl_in p (2 * (g 0 + g 2)) = true) : fl_cl fl_C 204 [.ref 259, .int p] h = some (some (some (.int (-Int32.ofNat 1))), fl_wi h 259 (fl_up (fl_i h 259) 0 (Int32.ofNat 0))) := by
  have w0 : g 0 ≤ 12 := w.1.2.2.2.1
  have w2 : g 2 ≤ 20 := w.1.2.2.2.2.1
  have G : fl_g k0 (fl_wi h 259 (fl_up (fl_i h 259) 0 (Int32.ofNat 0))) := ⟨by rw [fl_k_wi]; exact hg.1, by rw [fl_r_wi]; exact hg.2⟩
  have mx : fl_mm (fl_wi h 259 (fl_up (fl_i h 259) 0 (Int32.ofNat 0))) g := fun i hi => by rw [fl_i_wi, if_neg (by omega)]; exact m i hi
  have e164 := fr_164 G mx w0 w2 p
  rw [if_neg np] at e164
  clear m mx w
  rw [fbE_204]
  simp (disch := omega) only [fl_si_wi, hg.1, G.1, fl_KM, fl_RM, fl_lit, fl_nadd, fl_nmul, fl_ndiv, fl_nsub, fl_msub, fl_nle, fl_nlt, fl_neq, fl_nclamp, fl_nin, fl_ltT, fl_ltF, fl_leT, fl_leF, fl_eqT, fl_eqF, decide_true, decide_false, Bool.true_and, Bool.and_true, Bool.false_and, Bool.and_false, if_true, if_false, Bool.false_eq_true, Option.isSome_some, Option.getD_some, not_true_eq_false, not_false_eq_true, Option.toList_some, Option.toList_none, List.cons_append, List.nil_append, fbC_204_5, e164, fbP_204_10]
theorem fo_classOf_b (hg : fl_g k0 h) (m : fl_mm h g) (w : fl_wf g) {A : Nat → Int64} (qA : fl_cqs A (fl_JC g)) {f : Nat} (hf : f < 2 * (g 0 + g 2)) : ∃ y, fl_df fl_scr h y ∧ fl_cl fl_C 204 [.ref 259, .int (Int32.ofNat f)] h = some (some (some (.int (Int32.ofNat (fl_cnt (fl_hb (A f)) 64)))), fl_ra1 y (A f)) := by
  have w0 : g 0 ≤ 12 := w.1.2.2.2.1
  have w2 : g 2 ≤ 20 := w.1.2.2.2.2.1
  have q0 := fl_qt_0 (h := h) (x := Int32.ofNat 0)
  have g0 := fl_qo_g hg (fl_qt_qo q0)
  have m0 := fl_qo_mm m (fl_qt_qo q0)
  have e164 := fr_164 g0 m0 w0 w2 (Int32.ofNat f)
  rw [if_pos (by rw [fl_nin (by omega)]; exact decide_eq_true hf)] at e164
  obtain ⟨v, y, e200, rfl, fy, lst, qy⟩ := fr_200 g0 m0 w
  have gy := fl_g_fx g0 fy
  have my := fl_mm_fx m0 fy (by omega)
  refine ⟨y, fl_df_tr (fl_df_qt q0 (fun q j z => z)) (fl_df_fx fy (fun q j z => Or.inl (by omega))), ?_⟩
  have br := (fl_cq_rq w qA qy hf).1
  have qf := qy.1 f hf
  have lf : lst f < 64 := by omega
  have ga := fl_a0_g gy
  have da := fl_a0_df (S := fl_Sae) (fl_df_rfl (h := y)) (by omega)
  have a276 : fl_i (fl_a0 y) 276 = fl_i y 276 := fl_df_i da (fun j => by omega)
  have ma : fl_mm (fl_a0 y) g := fun j hj => by rw [(da.2.2.2 262 j (by omega)).1]; exact my j hj
  have e201 := fr_201 ga ma w (L := fl_JR g) (lst := lst) (by rw [a276]; exact qy) lf
  rw [br] at e201
  have t1 := fr_ra1 gy (A f)
  have d1 := fl_ra1_df (h := y) (A := A f)
  have g1 := fl_df_g gy d1
  have e201' := fr_201 g1 (fun j hj => by rw [(d1.2.2.2 262 j (by omega)).1]; exact my j hj) w (L := fl_JR g) (lst := lst) (by rw [fl_df_i d1 (fun j => by omega)]; exact qy) lf
  rw [br] at e201'
  have i1 : fl_i (fl_a0 y) 276 f = Int32.ofNat (lst f) := by rw [a276]; exact qf.1
  have i2 : fl_i (fl_ra1 y (A f)) 276 f = Int32.ofNat (lst f) := by rw [fl_df_i d1 (fun j => by omega)]; exact qf.1
  have b := fr_144 (h := fl_ra1 y (A f)) (A f)
  clear m m0 my ma w fy qy qA q0 br qf da d1 a276
  generalize fl_ra1 y (A f) = H1 at *
  generalize lst f = lf' at *
  rw [fbE_204]
  simp (disch := omega) only [fl_si_wi, fl_a0_w, hg.1, g0.1, gy.1, ga.1, ga.2, g1.1, g1.2, fl_KM, fl_RM, fl_lit, fl_nadd, fl_nmul, fl_ndiv, fl_nsub, fl_msub, fl_nle, fl_nlt, fl_neq, fl_nclamp, fl_nin, fl_ltT, fl_ltF, fl_leT, fl_leF, fl_eqT, fl_eqF, decide_true, decide_false, Bool.true_and, Bool.and_true, Bool.false_and, Bool.and_false, if_true, if_false, Bool.false_eq_true, Option.isSome_some, Option.getD_some, not_true_eq_false, not_false_eq_true, Option.toList_some, Option.toList_none, List.cons_append, List.nil_append, fbC_204_5, e164, fbP_204_10, e200, fbP_204_19, fbC_204_24, i1, e201, fbP_204_35, t1, fbP_204_38, i2, e201', fbP_204_48, b, fbP_204_51]
theorem fo_classOf (I : fl_Inv k0 c h) (p : Int32) : fl_both k0 c 203 204 [.int p] [.int p] h := by
  obtain ⟨rn, rv, iO⟩ := I.2.2.2.1
  obtain ⟨g, g1, g2, b1, b2, r, s1, s2, iG⟩ := I.2.2.2.2.2
  have w := iG.1
  by_cases V : fl_in p (2 * (g 0 + g 2)) = true
  · obtain ⟨f, hf, rfl⟩ := fl_in_ex V
    obtain ⟨y, A, dy, qA, a⟩ := fo_classOf_a I.1 w iG.2.2.2.1 iO.2.2.1 hf
    have d1 : fl_df (fun q j => (144 ≤ q ∧ q ≤ 258) ∨ fl_Sc6 q j) h (fl_ca1 y (A f)) := fl_df_tr (fl_df_mo dy (fun q j z => Or.inl (by omega))) (fl_df_mo fl_ca1_df (fun q j z => Or.inr z))
    obtain ⟨z, dz, b⟩ := fo_classOf_b (fl_df_g I.1 d1) (fun j hj => by rw [(d1.2.2.2 262 j (by omega)).1]; exact iG.2.1 j hj) w qA hf
    exact fo_tell1 I a (fl_df_mo dy (fun q j z => by omega)) b dz
  · exact ⟨_, _, _, fo_classOf_a0 I.1 w iG.2.2.2.1 V, fo_classOf_b0 I.1 iG.2.1 w V, fl_Inv_qt I fl_qt_0⟩
end
