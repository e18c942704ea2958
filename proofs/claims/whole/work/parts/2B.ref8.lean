/-! THE REFERENCE: sets, the number of bits, what is told -/
/-- the sets of those whose first tick (dropping tick) there is -/
theorem fr_142 {k0 : Nat → Nat × Nat} {h : fl_H} {g : Nat → Nat} (hg : fl_g k0 h) (m : fl_mm h g) (w : fl_wf g) {q : Nat → Bool} {t : Nat → Nat} (ht : ∀ f, t f < 2147483648) (hf : ∀ f, f < 2 * (g 0 + g 2) → fl_i h 271 f = fl_oi (q f) (t f)) : fl_cl fl_C 142 [.ref 259] h = some (some (some (.long (fl_bs q (2 * (g 0 + g 2))))), h) := by
  have w1 : g 0 ≤ 12 := w.1.2.2.2.1
  have w2 : g 2 ≤ 20 := w.1.2.2.2.2.1
  have e88 := fr_88 hg m
  have lp := fl_iter (fun f => fl_Rn fl_C 142 4 [some (.ref 259), some (.long (fl_bs q f)), none, some (.int (Int32.ofNat f))] [] h) (2 * (g 0 + g 2)) (by
    intro f hf2
    try dsimp only
    have e1 := hf f hf2
    have hz := fl_oi_lt (b := q f) (ht f)
    clear hf ht m w
    rw [fbC_142_4]
    simp (disch := omega) only [hg.1, hg.2, fl_KM, fl_RM, fl_lit, fl_nadd, fl_nmul, fl_ndiv, fl_nsub, fl_msub, fl_nle, fl_nlt, fl_neq, fl_nclamp, fl_nin, fl_ltT, fl_ltF, fl_leT, fl_leF, fl_eqT, fl_eqF, decide_true, decide_false, Bool.true_and, Bool.and_true, Bool.false_and, Bool.and_false, if_true, if_false, Bool.false_eq_true, Option.isSome_some, Option.getD_some, not_true_eq_false, not_false_eq_true, Option.toList_some, Option.toList_none, List.cons_append, List.nil_append, e88, fbP_142_9, e1, hz, fl_bs]
    rcases Bool.eq_false_or_eq_true (q f) with e | e <;> simp only [e, if_true, if_false, decide_true, decide_false, Bool.true_eq_false, Bool.false_eq_true, reduceCtorEq, not_true_eq_false, not_false_eq_true])
  rw [fbE_142]
  refine lp.trans ?_
  try dsimp only
  clear hf ht m w lp
  rw [fbC_142_4]
  simp (disch := omega) only [hg.1, hg.2, fl_KM, fl_RM, fl_lit, fl_nadd, fl_nmul, fl_ndiv, fl_nsub, fl_msub, fl_nle, fl_nlt, fl_neq, fl_nclamp, fl_nin, fl_ltT, fl_ltF, fl_leT, fl_leF, fl_eqT, fl_eqF, decide_true, decide_false, Bool.true_and, Bool.and_true, Bool.false_and, Bool.and_false, if_true, if_false, Bool.false_eq_true, Option.isSome_some, Option.getD_some, not_true_eq_false, not_false_eq_true, Option.toList_some, Option.toList_none, List.cons_append, List.nil_append, e88, fbP_142_9]
theorem fr_155 {k0 : Nat → Nat × Nat} {h : fl_H} {g : Nat → Nat} (hg : fl_g k0 h) (m : fl_mm h g) (w : fl_wf g) {q : Nat → Bool} {t : Nat → Nat} (ht : ∀ f, t f < 2147483648) (hf : ∀ f, f < 2 * (g 0 + g 2) → fl_i h 273 f = fl_oi (q f) (t f)) : fl_cl fl_C 155 [.ref 259] h = some (some (some (.long (fl_bs q (2 * (g 0 + g 2))))), h) := by
  have w1 : g 0 ≤ 12 := w.1.2.2.2.1
  have w2 : g 2 ≤ 20 := w.1.2.2.2.2.1
  have e88 := fr_88 hg m
  have lp := fl_iter (fun f => fl_Rn fl_C 155 4 [some (.ref 259), some (.long (fl_bs q f)), none, some (.int (Int32.ofNat f))] [] h) (2 * (g 0 + g 2)) (by
    intro f hf2
    try dsimp only
    have e1 := hf f hf2
    have hz := fl_oi_lt (b := q f) (ht f)
    clear hf ht m w
    rw [fbC_155_4]
    simp (disch := omega) only [hg.1, hg.2, fl_KM, fl_RM, fl_lit, fl_nadd, fl_nmul, fl_ndiv, fl_nsub, fl_msub, fl_nle, fl_nlt, fl_neq, fl_nclamp, fl_nin, fl_ltT, fl_ltF, fl_leT, fl_leF, fl_eqT, fl_eqF, decide_true, decide_false, Bool.true_and, Bool.and_true, Bool.false_and, Bool.and_false, if_true, if_false, Bool.false_eq_true, Option.isSome_some, Option.getD_some, not_true_eq_false, not_false_eq_true, Option.toList_some, Option.toList_none, List.cons_append, List.nil_append, e88, fbP_155_9, e1, hz, fl_bs]
    rcases Bool.eq_false_or_eq_true (q f) with e | e <;> simp only [e, if_true, if_false, decide_true, decide_false, Bool.true_eq_false, Bool.false_eq_true, reduceCtorEq, not_true_eq_false, not_false_eq_true])
  rw [fbE_155]
  refine lp.trans ?_
  try dsimp only
  clear hf ht m w lp
  rw [fbC_155_4]
  simp (disch := omega) only [hg.1, hg.2, fl_KM, fl_RM, fl_lit, fl_nadd, fl_nmul, fl_ndiv, fl_nsub, fl_msub, fl_nle, fl_nlt, fl_neq, fl_nclamp, fl_nin, fl_ltT, fl_ltF, fl_leT, fl_leF, fl_eqT, fl_eqF, decide_true, decide_false, Bool.true_and, Bool.and_true, Bool.false_and, Bool.and_false, if_true, if_false, Bool.false_eq_true, Option.isSome_some, Option.getD_some, not_true_eq_false, not_false_eq_true, Option.toList_some, Option.toList_none, List.cons_append, List.nil_append, e88, fbP_155_9]
theorem fr_144 {h : fl_H} (x : Int64) : fl_cl fl_C 144 [.long x] h = some (some (some (.int (Int32.ofNat (fl_cnt (fl_hb x) 64)))), h) := by
  have lp := fl_iter (fun k => fl_Rn fl_C 144 4 [some (.long x), none, some (.int (Int32.ofNat (fl_cnt (fl_hb x) k))), some (.int (Int32.ofNat k))] [] h) 64 (by
    intro k hk
    try dsimp only
    have e := fl_hb_sar hk x
    rw [fbC_144_4]
    simp (disch := omega) only [fl_lit, fl_nadd, fl_nmul, fl_ndiv, fl_nsub, fl_msub, fl_nle, fl_nlt, fl_neq, fl_nclamp, fl_nin, fl_ltT, fl_ltF, fl_leT, fl_leF, fl_eqT, fl_eqF, decide_true, decide_false, Bool.true_and, Bool.and_true, Bool.false_and, Bool.and_false, if_true, if_false, Bool.false_eq_true, Option.isSome_some, Option.getD_some, not_true_eq_false, not_false_eq_true, Option.toList_some, Option.toList_none, List.cons_append, List.nil_append, e, fl_cnt]
    rcases Bool.eq_false_or_eq_true (fl_hb x k) with e | e
    · simp only [e, if_true, if_false, decide_true, decide_false, Bool.true_eq_false, Bool.false_eq_true, reduceCtorEq, not_true_eq_false, not_false_eq_true, Bool.toNat_true, show (1 : Int64).toInt32 = Int32.ofNat 1 from rfl, fl_nadd]
    · simp only [e, if_true, if_false, decide_true, decide_false, Bool.true_eq_false, Bool.false_eq_true, reduceCtorEq, not_true_eq_false, not_false_eq_true, Bool.toNat_false, show (0 : Int64).toInt32 = Int32.ofNat 0 from rfl, fl_nadd])
  rw [fbE_144]
  refine lp.trans ?_
  try dsimp only
  rw [fbC_144_4]
  simp (disch := omega) only [fl_lit, fl_nadd, fl_nmul, fl_ndiv, fl_nsub, fl_msub, fl_nle, fl_nlt, fl_neq, fl_nclamp, fl_nin, fl_ltT, fl_ltF, fl_leT, fl_leF, fl_eqT, fl_eqF, decide_true, decide_false, Bool.true_and, Bool.and_true, Bool.false_and, Bool.and_false, if_true, if_false, Bool.false_eq_true, Option.isSome_some, Option.getD_some, not_true_eq_false, not_false_eq_true, Option.toList_some, Option.toList_none, List.cons_append, List.nil_append]
/-- what is told, one number more -/
theorem fr_143 {k0 : Nat → Nat × Nat} {h : fl_H} (hg : fl_g k0 h) {n : Nat} (hn : n < 32) (e : fl_i h 259 1 = Int32.ofNat n) (x : Int64) : fl_cl fl_C 143 [.ref 259, .long x] h = some (some none, fl_wi (fl_wl h 260 (fl_up (fl_l h 260) n x)) 259 (fl_up (fl_i h 259) 1 (Int32.ofNat (n + 1)))) := by
  rw [fbE_143, fbC_143_10]
  simp (disch := omega) only [fl_k_wl, fl_r_wl, fl_i_wl, fl_l_wl, fl_1_wl, fl_k_wi, fl_r_wi, fl_l_wi, fl_1_wi, fl_i_wi, fl_k_si, fl_r_si, fl_l_si, fl_k_sl, fl_r_sl, fl_i_sl, fl_up_self, fl_up_ne, fl_si_wi, fl_sl_wl, fl_wi_wi, fl_wl_wl, hg.1, hg.2, fl_KM, fl_RM, fl_lit, fl_nadd, fl_nmul, fl_ndiv, fl_nsub, fl_msub, fl_nle, fl_nlt, fl_neq, fl_nclamp, fl_nin, fl_ltT, fl_ltF, fl_leT, fl_leF, fl_eqT, fl_eqF, decide_true, decide_false, Bool.true_and, Bool.and_true, Bool.false_and, Bool.and_false, if_true, if_false, Bool.false_eq_true, Option.isSome_some, Option.getD_some, not_true_eq_false, not_false_eq_true, Option.toList_some, Option.toList_none, List.cons_append, List.nil_append, e]
/-- the run's patterns, laid out -/
theorem fr_131 {k0 : Nat → Nat × Nat} {h : fl_H} {g : Nat → Nat} (hg : fl_g k0 h) (m : fl_mm h g) (w : fl_wf g) : fl_cl fl_C 131 [.ref 259] h = some (some none, fl_wi (fl_wi h 259 (fl_up (fl_i h 259) 16 (Int32.ofNat (g 76)))) 268 (fl_ar (g 76) (fun t => g (78 + t)) (fl_i h 268))) := by
  have w1 : g 76 ≤ 24 := w.1.2.2.2.2.2.2.2.1
  have e130 := fr_130 hg m
  have lp := fl_iter (fun t => fl_Rn fl_C 131 10 [some (.ref 259), some (.int (Int32.ofNat t))] [] (fl_wi (fl_wi h 259 (fl_up (fl_i h 259) 16 (Int32.ofNat (g 76)))) 268 (fl_ar t (fun t => g (78 + t)) (fl_i h 268)))) (g 76) (by
    intro t ht
    try dsimp only
    have mt := m (78 + t) (by omega)
    have e : fl_up (fl_ar t (fun t => g (78 + t)) (fl_i h 268)) t (Int32.ofNat (g (78 + t))) = fl_ar (t + 1) (fun t => g (78 + t)) (fl_i h 268) := fl_ar_succ (f := fun t => g (78 + t))
    clear m w e130
    rw [fbC_131_10]
    simp (disch := omega) only [fl_k_wl, fl_r_wl, fl_i_wl, fl_l_wl, fl_1_wl, fl_k_wi, fl_r_wi, fl_l_wi, fl_1_wi, fl_i_wi, fl_k_si, fl_r_si, fl_l_si, fl_k_sl, fl_r_sl, fl_i_sl, fl_up_self, fl_up_ne, fl_si_wi, fl_sl_wl, fl_wi_wi, fl_wl_wl, hg.1, hg.2, fl_KM, fl_RM, fl_lit, fl_nadd, fl_nmul, fl_ndiv, fl_nsub, fl_msub, fl_nle, fl_nlt, fl_neq, fl_nclamp, fl_nin, fl_ltT, fl_ltF, fl_leT, fl_leF, fl_eqT, fl_eqF, decide_true, decide_false, Bool.true_and, Bool.and_true, Bool.false_and, Bool.and_false, if_true, if_false, Bool.false_eq_true, Option.isSome_some, Option.getD_some, not_true_eq_false, not_false_eq_true, Option.toList_some, Option.toList_none, List.cons_append, List.nil_append, fbC_131_8, fbC_131_31, fbC_131_32, fbC_131_33, fbP_131_5, mt, e])
  have e0 : fl_wi h 259 (fl_up (fl_i h 259) 16 (Int32.ofNat (g 76))) = fl_wi (fl_wi h 259 (fl_up (fl_i h 259) 16 (Int32.ofNat (g 76)))) 268 (fl_ar 0 (fun t => g (78 + t)) (fl_i h 268)) := (fl_wi_self fl_ar_0).symm
  have lp' := (congrArg (fun x => fl_Rn fl_C 131 10 [some (.ref 259), some (.int (Int32.ofNat 0))] [] x) e0).trans lp
  rw [fbE_131, e130]
  have m2 : fl_Rn fl_C 131 10 [some (.ref 259), some (.int (Int32.ofNat (g 76)))] [] (fl_wi (fl_wi h 259 (fl_up (fl_i h 259) 16 (Int32.ofNat (g 76)))) 268 (fl_ar (g 76) (fun t => g (78 + t)) (fl_i h 268))) = some (some none, fl_wi (fl_wi h 259 (fl_up (fl_i h 259) 16 (Int32.ofNat (g 76)))) 268 (fl_ar (g 76) (fun t => g (78 + t)) (fl_i h 268))) := by
    clear m w lp lp' e130
    rw [fbC_131_10]
    simp (disch := omega) only [fl_k_wl, fl_r_wl, fl_i_wl, fl_l_wl, fl_1_wl, fl_k_wi, fl_r_wi, fl_l_wi, fl_1_wi, fl_i_wi, fl_k_si, fl_r_si, fl_l_si, fl_k_sl, fl_r_sl, fl_i_sl, fl_up_self, fl_up_ne, fl_si_wi, fl_sl_wl, fl_wi_wi, fl_wl_wl, hg.1, hg.2, fl_KM, fl_RM, fl_lit, fl_nadd, fl_nmul, fl_ndiv, fl_nsub, fl_msub, fl_nle, fl_nlt, fl_neq, fl_nclamp, fl_nin, fl_ltT, fl_ltF, fl_leT, fl_leF, fl_eqT, fl_eqF, decide_true, decide_false, Bool.true_and, Bool.and_true, Bool.false_and, Bool.and_false, if_true, if_false, Bool.false_eq_true, Option.isSome_some, Option.getD_some, not_true_eq_false, not_false_eq_true, Option.toList_some, Option.toList_none, List.cons_append, List.nil_append]
  clear m w lp
  simp (disch := omega) only [fl_k_wl, fl_r_wl, fl_i_wl, fl_l_wl, fl_1_wl, fl_k_wi, fl_r_wi, fl_l_wi, fl_1_wi, fl_i_wi, fl_k_si, fl_r_si, fl_l_si, fl_k_sl, fl_r_sl, fl_i_sl, fl_up_self, fl_up_ne, fl_si_wi, fl_sl_wl, fl_wi_wi, fl_wl_wl, hg.1, hg.2, fl_KM, fl_RM, fl_lit, fl_nadd, fl_nmul, fl_ndiv, fl_nsub, fl_msub, fl_nle, fl_nlt, fl_neq, fl_nclamp, fl_nin, fl_ltT, fl_ltF, fl_leT, fl_leF, fl_eqT, fl_eqF, decide_true, decide_false, Bool.true_and, Bool.and_true, Bool.false_and, Bool.and_false, if_true, if_false, Bool.false_eq_true, Option.isSome_some, Option.getD_some, not_true_eq_false, not_false_eq_true, Option.toList_some, Option.toList_none, List.cons_append, List.nil_append, fbC_131_8, fbC_131_31, fbC_131_32, fbC_131_33, fbP_131_5]
  exact lp'.trans m2
