/-! Cells, by places that are there -/
abbrev fl_isC (k0 : Nat → Nat × Nat) (a q n : Nat) : Prop := fl_KK k0 a = (1, 1) ∧ fl_RR a 0 = some q ∧ fl_KK k0 q = (3, n) ∧ n < 100000
theorem fl_cells_at {k0 : Nat → Nat × Nat} {h : fl_H} {a q n : Nat} (c : fl_isC k0 a q n) (hg : fl_g k0 h) (i : Int32) : fl_cl fl_C 105 [.ref a, .int i] h = some (some (some (.long (if fl_in i n = true then fl_l h q i.toNatClampNeg else 0))), h) := by
  obtain ⟨h1, h2, h3, h4⟩ := c
  rw [fbE_105, hg.1, hg.2, h1, h2]
  simp only [Option.getD_some, Option.isSome_some, h3, fbC_105_22]
  by_cases hi : i < 0
  · rw [fl_ifd hi, if_neg (fun z => (fl_in_iff.mp z).1 hi)]
  · rw [fl_ifn hi]
    by_cases hn : n ≤ i.toNatClampNeg
    · simp [(fl_i32_le hi h4).mpr hn, fl_in, hn]
    · have hq : ¬ Int32.ofNat n ≤ i := fun z => hn ((fl_i32_le hi h4).mp z)
      simp [hq, fl_in, hi, hn, hg.1, h3]
theorem fl_cells_int {k0 : Nat → Nat × Nat} {h : fl_H} {a q n : Nat} (c : fl_isC k0 a q n) (hg : fl_g k0 h) (i : Int32) : fl_cl fl_C 24 [.ref a, .int i] h = some (some (some (.int (if fl_in i n = true then (fl_l h q i.toNatClampNeg).toInt32 else 0))), h) := by
  obtain ⟨h1, h2, h3, h4⟩ := c
  rw [fbE_24, hg.1, hg.2, h1, h2]
  simp only [Option.getD_some, Option.isSome_some, h3, fbC_24_23]
  by_cases hi : i < 0
  · rw [fl_ifd hi, if_neg (fun z => (fl_in_iff.mp z).1 hi)]
  · rw [fl_ifn hi]
    by_cases hn : n ≤ i.toNatClampNeg
    · simp [(fl_i32_le hi h4).mpr hn, fl_in, hn]
    · have hq : ¬ Int32.ofNat n ≤ i := fun z => hn ((fl_i32_le hi h4).mp z)
      simp [hq, fl_in, hi, hn, hg.1, h3]
theorem fl_cells_put {k0 : Nat → Nat × Nat} {h : fl_H} {a q n : Nat} (c : fl_isC k0 a q n) (hg : fl_g k0 h) (i : Int32) (v : Int64) : fl_cl fl_C 20 [.ref a, .int i, .long v] h = some (some none, if fl_in i n = true then fl_sl h q i.toNatClampNeg v else h) := by
  obtain ⟨h1, h2, h3, h4⟩ := c
  rw [fbE_20, hg.1, hg.2, h1, h2]
  simp only [Option.getD_some, Option.isSome_some, h3, fbC_20_20]
  by_cases hi : i < 0
  · rw [fl_ifd hi, if_neg (fun z => (fl_in_iff.mp z).1 hi)]
  · rw [fl_ifn hi]
    by_cases hn : n ≤ i.toNatClampNeg
    · simp [(fl_i32_le hi h4).mpr hn, fl_in, hn]
    · have hq : ¬ Int32.ofNat n ≤ i := fun z => hn ((fl_i32_le hi h4).mp z)
      simp [hq, fl_in, hi, hn, hg.1, h3]
theorem fc_at {k0 : Nat → Nat × Nat} {a q n : Nat} (c : fl_isC k0 a q n) {h : fl_H} (hg : fl_g k0 h) {i : Nat} (hi : i < n) : fl_cl fl_C 105 [.ref a, .int (Int32.ofNat i)] h = some (some (some (.long (fl_l h q i))), h) := by
  have := c.2.2.2
  rw [fl_cells_at c hg, fl_nin (by omega), fl_nclamp (by omega), decide_eq_true hi, if_pos rfl]
theorem fc_int {k0 : Nat → Nat × Nat} {a q n : Nat} (c : fl_isC k0 a q n) {h : fl_H} (hg : fl_g k0 h) {i : Nat} (hi : i < n) : fl_cl fl_C 24 [.ref a, .int (Int32.ofNat i)] h = some (some (some (.int (fl_l h q i).toInt32)), h) := by
  have := c.2.2.2
  rw [fl_cells_int c hg, fl_nin (by omega), fl_nclamp (by omega), decide_eq_true hi, if_pos rfl]
theorem fc_put {k0 : Nat → Nat × Nat} {a q n : Nat} (c : fl_isC k0 a q n) {h : fl_H} (hg : fl_g k0 h) {i : Nat} (hi : i < n) (v : Int64) : fl_cl fl_C 20 [.ref a, .int (Int32.ofNat i), .long v] h = some (some none, fl_wl h q (fl_up (fl_l h q) i v)) := by
  have := c.2.2.2
  rw [fl_cells_put c hg, fl_nin (by omega), fl_nclamp (by omega), decide_eq_true hi, if_pos rfl, fl_sl_wl]
theorem fc_fill {k0 : Nat → Nat × Nat} {a q n : Nat} (c : fl_isC k0 a q n) {h : fl_H} (hg : fl_g k0 h) (v : Int64) : fl_cl fl_C 205 [.ref a, .long v] h = some (some none, fl_wl h q (fl_al n (fun _ => v) (fl_l h q))) := by
  obtain ⟨h1, h2, h3, h4⟩ := c
  have lp := fl_iter (fun k => fl_Rn fl_C 205 2 [some (.ref a), some (.long v), none, some (.int (Int32.ofNat k))] [] (fl_wl h q (fl_al k (fun _ => v) (fl_l h q)))) n (by
    intro k hk
    try dsimp only
    have e := fl_al_succ (k := k) (f := fun _ => v) (old := fl_l h q) (x := v) rfl
    rw [fbC_205_2]
    simp (disch := omega) only [fl_k_wl, fl_r_wl, fl_i_wl, fl_l_wl, fl_1_wl, fl_k_wi, fl_r_wi, fl_l_wi, fl_1_wi, fl_i_wi, fl_k_si, fl_r_si, fl_l_si, fl_k_sl, fl_r_sl, fl_i_sl, fl_up_self, fl_up_ne, fl_si_wi, fl_sl_wl, fl_wi_wi, fl_wl_wl, hg.1, hg.2, h1, h2, h3, fl_lit, fl_nadd, fl_nmul, fl_ndiv, fl_nsub, fl_msub, fl_nle, fl_nlt, fl_neq, fl_nclamp, fl_nin, fl_ltT, fl_ltF, fl_leT, fl_leF, fl_eqT, fl_eqF, decide_true, decide_false, Bool.true_and, Bool.and_true, Bool.false_and, Bool.and_false, if_true, if_false, Bool.false_eq_true, Option.isSome_some, Option.getD_some, not_true_eq_false, not_false_eq_true, Option.toList_some, Option.toList_none, List.cons_append, List.nil_append, fbC_205_18, e])
  rw [fbE_205]
  have e0 : h = fl_wl h q (fl_al 0 (fun _ => v) (fl_l h q)) := (fl_wl_self fl_al_0).symm
  have : fl_Rn fl_C 205 2 [some (.ref a), some (.long v), none, some (.int 0)] [] h = _ := (congrArg (fun x => fl_Rn fl_C 205 2 [some (.ref a), some (.long v), none, some (.int 0)] [] x) e0).trans lp
  rw [this, fbC_205_2]
  simp (disch := omega) only [fl_k_wl, fl_r_wl, fl_i_wl, fl_l_wl, fl_1_wl, fl_k_wi, fl_r_wi, fl_l_wi, fl_1_wi, fl_i_wi, fl_k_si, fl_r_si, fl_l_si, fl_k_sl, fl_r_sl, fl_i_sl, fl_up_self, fl_up_ne, fl_si_wi, fl_sl_wl, fl_wi_wi, fl_wl_wl, hg.1, hg.2, h1, h2, h3, fl_lit, fl_nadd, fl_nmul, fl_ndiv, fl_nsub, fl_msub, fl_nle, fl_nlt, fl_neq, fl_nclamp, fl_nin, fl_ltT, fl_ltF, fl_leT, fl_leF, fl_eqT, fl_eqF, decide_true, decide_false, Bool.true_and, Bool.and_true, Bool.false_and, Bool.and_false, if_true, if_false, Bool.false_eq_true, Option.isSome_some, Option.getD_some, not_true_eq_false, not_false_eq_true, Option.toList_some, Option.toList_none, List.cons_append, List.nil_append]
theorem fc_copy {k0 : Nat → Nat × Nat} {a q b r n : Nat} (c : fl_isC k0 a q n) (d : fl_isC k0 b r n) (hqr : r ≠ q) {h : fl_H} (hg : fl_g k0 h) : fl_cl fl_C 69 [.ref a, .ref b] h = some (some none, fl_wl h q (fl_al n (fl_l h r) (fl_l h q))) := by
  obtain ⟨h1, h2, h3, h4⟩ := c
  obtain ⟨d1, d2, d3, d4⟩ := d
  have lp := fl_iter (fun k => fl_Rn fl_C 69 2 [some (.ref a), some (.ref b), some (.int (Int32.ofNat k))] [] (fl_wl h q (fl_al k (fl_l h r) (fl_l h q)))) n (by
    intro k hk
    try dsimp only
    rw [fbC_69_2]
    simp (disch := omega) only [fl_k_wl, fl_r_wl, fl_i_wl, fl_l_wl, fl_1_wl, fl_k_wi, fl_r_wi, fl_l_wi, fl_1_wi, fl_i_wi, fl_k_si, fl_r_si, fl_l_si, fl_k_sl, fl_r_sl, fl_i_sl, fl_up_self, fl_up_ne, fl_si_wi, fl_sl_wl, fl_wi_wi, fl_wl_wl, hg.1, hg.2, h1, h2, h3, d1, d2, d3, fl_lit, fl_nadd, fl_nmul, fl_ndiv, fl_nsub, fl_msub, fl_nle, fl_nlt, fl_neq, fl_nclamp, fl_nin, fl_ltT, fl_ltF, fl_leT, fl_leF, fl_eqT, fl_eqF, decide_true, decide_false, Bool.true_and, Bool.and_true, Bool.false_and, Bool.and_false, if_true, if_false, Bool.false_eq_true, Option.isSome_some, Option.getD_some, not_true_eq_false, not_false_eq_true, Option.toList_some, Option.toList_none, List.cons_append, List.nil_append, fbC_69_31, fbC_69_32, fl_sl_wl, fl_wl_wl, if_neg hqr]
    rw [fl_al_succ rfl])
  rw [fbE_69]
  have e0 : h = fl_wl h q (fl_al 0 (fl_l h r) (fl_l h q)) := (fl_wl_self fl_al_0).symm
  have : fl_Rn fl_C 69 2 [some (.ref a), some (.ref b), some (.int 0)] [] h = _ := (congrArg (fun x => fl_Rn fl_C 69 2 [some (.ref a), some (.ref b), some (.int 0)] [] x) e0).trans lp
  rw [this, fbC_69_2]
  simp (disch := omega) only [fl_k_wl, fl_r_wl, fl_i_wl, fl_l_wl, fl_1_wl, fl_k_wi, fl_r_wi, fl_l_wi, fl_1_wi, fl_i_wi, fl_k_si, fl_r_si, fl_l_si, fl_k_sl, fl_r_sl, fl_i_sl, fl_up_self, fl_up_ne, fl_si_wi, fl_sl_wl, fl_wi_wi, fl_wl_wl, hg.1, hg.2, h1, h2, h3, d1, d2, d3, fl_lit, fl_nadd, fl_nmul, fl_ndiv, fl_nsub, fl_msub, fl_nle, fl_nlt, fl_neq, fl_nclamp, fl_nin, fl_ltT, fl_ltF, fl_leT, fl_leF, fl_eqT, fl_eqF, decide_true, decide_false, Bool.true_and, Bool.and_true, Bool.false_and, Bool.and_false, if_true, if_false, Bool.false_eq_true, Option.isSome_some, Option.getD_some, not_true_eq_false, not_false_eq_true, Option.toList_some, Option.toList_none, List.cons_append, List.nil_append, fbC_69_38]
