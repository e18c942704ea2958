/-! THE REFERENCE: the run of a fault -/
/-- whether a fault is dropped by a tick, if it comes to that -/
def fl_dr (g : Nat → Nat) (f : Nat) (ps : Nat → Nat) (t : Nat) : Bool := fl_shn g f ps t && decide (g (102 + t) = 1)
/-- dropped ahead of the last tick -/
def fl_aw (g : Nat → Nat) (f : Nat) (ps : Nat → Nat) (n : Nat) : Bool := fl_any (fl_dr g f ps) n && decide (fl_frst (fl_dr g f ps) n + 1 < n)
/-- the values of the last tick, as they are told -/
def fl_fvl (g : Nat → Nat) (f : Nat) (ps : Nat → Nat) (n : Nat) : Nat → Nat := if fl_aw g f ps n = true then fl_vl g 64 ps (n - 1) else fl_vl g f ps (n - 1)
/-- what registers hold, as it is told -/
def fl_fhd (g : Nat → Nat) (f : Nat) (ps : Nat → Nat) (n : Nat) : Nat → Nat := if fl_any (fl_dr g f ps) n = true then fl_hd g 64 ps n else fl_hd g f ps n
theorem fr_140a {k0 : Nat → Nat × Nat} {x : fl_H} (hg : fl_g k0 x) {n f d : Nat} {b : Bool} (hf : f < 64) (hn : n ≤ 24) (hd : d < 25) (l : fl_i x 259 16 = Int32.ofNat n) (e : fl_i x 273 f = fl_oi b d) (hb : b = true → d < n) : fl_Rn fl_C 140 118 [some (.ref 259), some (.int (Int32.ofNat f))] [] x = fl_Rn fl_C 140 150 [some (.ref 259), some (.int (Int32.ofNat f)), some (.int (Int32.ofNat (b && decide (d + 1 < n)).toNat)), some (.int (Int32.ofNat 0))] [] x := by
  have hz := fl_oi_lt (b := b) (t := d) (by omega)
  rw [fbC_140_118]
  cases b with
  | false =>
    simp (disch := omega) only [hg.1, hg.2, fl_KM, fl_RM, fl_lit, fl_nadd, fl_nmul, fl_ndiv, fl_nsub, fl_msub, fl_nle, fl_nlt, fl_neq, fl_nclamp, fl_nin, fl_ltT, fl_ltF, fl_leT, fl_leF, fl_eqT, fl_eqF, decide_true, decide_false, Bool.true_and, Bool.and_true, Bool.false_and, Bool.and_false, if_true, if_false, Bool.false_eq_true, Option.isSome_some, Option.getD_some, not_true_eq_false, not_false_eq_true, Option.toList_some, Option.toList_none, List.cons_append, List.nil_append, e, hz, fbC_140_146, Bool.toNat_false]
  | true =>
    have := hb rfl
    have e2 : fl_oi true d = Int32.ofNat d := rfl
    by_cases c : d + 1 < n
    · simp (disch := omega) only [hg.1, hg.2, fl_KM, fl_RM, fl_lit, fl_nadd, fl_nmul, fl_ndiv, fl_nsub, fl_msub, fl_nle, fl_nlt, fl_neq, fl_nclamp, fl_nin, fl_ltT, fl_ltF, fl_leT, fl_leF, fl_eqT, fl_eqF, decide_true, decide_false, Bool.true_and, Bool.and_true, Bool.false_and, Bool.and_false, if_true, if_false, Bool.false_eq_true, Option.isSome_some, Option.getD_some, not_true_eq_false, not_false_eq_true, Option.toList_some, Option.toList_none, List.cons_append, List.nil_append, e, hz, e2, l, Bool.true_eq_false, Bool.toNat_true]
    · simp (disch := omega) only [hg.1, hg.2, fl_KM, fl_RM, fl_lit, fl_nadd, fl_nmul, fl_ndiv, fl_nsub, fl_msub, fl_nle, fl_nlt, fl_neq, fl_nclamp, fl_nin, fl_ltT, fl_ltF, fl_leT, fl_leF, fl_eqT, fl_eqF, decide_true, decide_false, Bool.true_and, Bool.and_true, Bool.false_and, Bool.and_false, if_true, if_false, Bool.false_eq_true, Option.isSome_some, Option.getD_some, not_true_eq_false, not_false_eq_true, Option.toList_some, Option.toList_none, List.cons_append, List.nil_append, e, hz, e2, l, fbC_140_146, Bool.true_eq_false, Bool.toNat_false]
theorem fr_140b {k0 : Nat → Nat × Nat} {x : fl_H} {g : Nat → Nat} (hg : fl_g k0 x) (m : fl_mm x g) (w : g 0 ≤ 12) {n f : Nat} {b : Bool} (hf : f < 64) (hn : n ≤ 24) (hn0 : 0 < n) (l : fl_i x 259 16 = Int32.ofNat n) : fl_Rn fl_C 140 150 [some (.ref 259), some (.int (Int32.ofNat f)), some (.int (Int32.ofNat b.toNat)), some (.int (Int32.ofNat 0))] [] x = fl_Rn fl_C 140 213 [some (.ref 259), some (.int (Int32.ofNat f)), none, some (.int (Int32.ofNat 0))] [] (fl_wi x 274 (fl_seg (12 * f) (g 0) (fun k => if b = true then fl_i x 269 (12 * (n - 1) + k) else fl_i x 266 k) (fl_i x 274))) := by
  have lp := fl_iter (fun k => fl_Rn fl_C 140 150 [some (.ref 259), some (.int (Int32.ofNat f)), some (.int (Int32.ofNat b.toNat)), some (.int (Int32.ofNat k))] [] (fl_wi x 274 (fl_seg (12 * f) k (fun k => if b = true then fl_i x 269 (12 * (n - 1) + k) else fl_i x 266 k) (fl_i x 274)))) (g 0) (by
    intro k hk
    try dsimp only
    have e95 := fr_95 (h := fl_wi x 274 (fl_seg (12 * f) k (fun k => if b = true then fl_i x 269 (12 * (n - 1) + k) else fl_i x 266 k) (fl_i x 274))) hg m
    have e := fl_seg_succ (a := 12 * f) (k := k) (f := fun k => if b = true then fl_i x 269 (12 * (n - 1) + k) else fl_i x 266 k) (old := fl_i x 274) rfl
    clear m
    rw [fbC_140_150, e95, fbP_140_155]
    cases b with
    | true =>
      simp only [if_true] at e
      simp (disch := omega) only [fl_k_wl, fl_r_wl, fl_i_wl, fl_l_wl, fl_1_wl, fl_k_wi, fl_r_wi, fl_l_wi, fl_1_wi, fl_i_wi, fl_k_si, fl_r_si, fl_l_si, fl_k_sl, fl_r_sl, fl_i_sl, fl_up_self, fl_up_ne, fl_si_wi, fl_sl_wl, fl_wi_wi, fl_wl_wl, hg.1, hg.2, fl_KM, fl_RM, fl_lit, fl_nadd, fl_nmul, fl_ndiv, fl_nsub, fl_msub, fl_nle, fl_nlt, fl_neq, fl_nclamp, fl_nin, fl_ltT, fl_ltF, fl_leT, fl_leF, fl_eqT, fl_eqF, decide_true, decide_false, Bool.true_and, Bool.and_true, Bool.false_and, Bool.and_false, if_true, if_false, Bool.false_eq_true, Option.isSome_some, Option.getD_some, not_true_eq_false, not_false_eq_true, Option.toList_some, Option.toList_none, List.cons_append, List.nil_append, l, fbC_140_175, fbC_140_194, fbC_140_204, fbC_140_205, Bool.toNat_true, e]
    | false =>
      simp only [Bool.false_eq_true, if_false] at e
      simp (disch := omega) only [fl_k_wl, fl_r_wl, fl_i_wl, fl_l_wl, fl_1_wl, fl_k_wi, fl_r_wi, fl_l_wi, fl_1_wi, fl_i_wi, fl_k_si, fl_r_si, fl_l_si, fl_k_sl, fl_r_sl, fl_i_sl, fl_up_self, fl_up_ne, fl_si_wi, fl_sl_wl, fl_wi_wi, fl_wl_wl, hg.1, hg.2, fl_KM, fl_RM, fl_lit, fl_nadd, fl_nmul, fl_ndiv, fl_nsub, fl_msub, fl_nle, fl_nlt, fl_neq, fl_nclamp, fl_nin, fl_ltT, fl_ltF, fl_leT, fl_leF, fl_eqT, fl_eqF, decide_true, decide_false, Bool.true_and, Bool.and_true, Bool.false_and, Bool.and_false, if_true, if_false, Bool.false_eq_true, Option.isSome_some, Option.getD_some, not_true_eq_false, not_false_eq_true, Option.toList_some, Option.toList_none, List.cons_append, List.nil_append, l, fbC_140_175, fbC_140_204, fbC_140_205, Bool.toNat_false, e])
  have e0 : x = fl_wi x 274 (fl_seg (12 * f) 0 (fun k => if b = true then fl_i x 269 (12 * (n - 1) + k) else fl_i x 266 k) (fl_i x 274)) := (fl_wi_self fl_seg_0).symm
  have lp' := (congrArg (fun z => fl_Rn fl_C 140 150 [some (.ref 259), some (.int (Int32.ofNat f)), some (.int (Int32.ofNat b.toNat)), some (.int (Int32.ofNat 0))] [] z) e0).trans lp
  refine lp'.trans ?_
  try dsimp only
  have e95 := fr_95 (h := fl_wi x 274 (fl_seg (12 * f) (g 0) (fun k => if b = true then fl_i x 269 (12 * (n - 1) + k) else fl_i x 266 k) (fl_i x 274))) hg m
  clear m lp lp'
  rw [fbC_140_150, e95, fbP_140_155]
  simp (disch := omega) only [fl_k_wl, fl_r_wl, fl_i_wl, fl_l_wl, fl_1_wl, fl_k_wi, fl_r_wi, fl_l_wi, fl_1_wi, fl_i_wi, fl_k_si, fl_r_si, fl_l_si, fl_k_sl, fl_r_sl, fl_i_sl, fl_up_self, fl_up_ne, fl_si_wi, fl_sl_wl, fl_wi_wi, fl_wl_wl, hg.1, hg.2, fl_KM, fl_RM, fl_lit, fl_nadd, fl_nmul, fl_ndiv, fl_nsub, fl_msub, fl_nle, fl_nlt, fl_neq, fl_nclamp, fl_nin, fl_ltT, fl_ltF, fl_leT, fl_leF, fl_eqT, fl_eqF, decide_true, decide_false, Bool.true_and, Bool.and_true, Bool.false_and, Bool.and_false, if_true, if_false, Bool.false_eq_true, Option.isSome_some, Option.getD_some, not_true_eq_false, not_false_eq_true, Option.toList_some, Option.toList_none, List.cons_append, List.nil_append, fbC_140_211]
theorem fr_140c {k0 : Nat → Nat × Nat} {x : fl_H} {g : Nat → Nat} (hg : fl_g k0 x) (m : fl_mm x g) (w : g 0 ≤ 12) {f : Nat} {b : Bool} (hf : f < 64) (l : fl_i x 259 16 = Int32.ofNat 0) : fl_Rn fl_C 140 150 [some (.ref 259), some (.int (Int32.ofNat f)), some (.int (Int32.ofNat b.toNat)), some (.int (Int32.ofNat 0))] [] x = fl_Rn fl_C 140 213 [some (.ref 259), some (.int (Int32.ofNat f)), none, some (.int (Int32.ofNat 0))] [] x := by
  have e95 := fr_95 hg m
  clear m
  rw [fbC_140_150, e95, fbP_140_155]
  by_cases c : g 0 = 0
  · simp (disch := omega) only [hg.1, hg.2, fl_KM, fl_RM, fl_lit, fl_nadd, fl_nmul, fl_ndiv, fl_nsub, fl_msub, fl_nle, fl_nlt, fl_neq, fl_nclamp, fl_nin, fl_ltT, fl_ltF, fl_leT, fl_leF, fl_eqT, fl_eqF, decide_true, decide_false, Bool.true_and, Bool.and_true, Bool.false_and, Bool.and_false, if_true, if_false, Bool.false_eq_true, Option.isSome_some, Option.getD_some, not_true_eq_false, not_false_eq_true, Option.toList_some, Option.toList_none, List.cons_append, List.nil_append, fbC_140_211]
  · simp (disch := omega) only [hg.1, hg.2, fl_KM, fl_RM, fl_lit, fl_nadd, fl_nmul, fl_ndiv, fl_nsub, fl_msub, fl_nle, fl_nlt, fl_neq, fl_nclamp, fl_nin, fl_ltT, fl_ltF, fl_leT, fl_leF, fl_eqT, fl_eqF, decide_true, decide_false, Bool.true_and, Bool.and_true, Bool.false_and, Bool.and_false, if_true, if_false, Bool.false_eq_true, Option.isSome_some, Option.getD_some, not_true_eq_false, not_false_eq_true, Option.toList_some, Option.toList_none, List.cons_append, List.nil_append, fbC_140_211, l]
theorem fr_140d {k0 : Nat → Nat × Nat} {x : fl_H} {g : Nat → Nat} (hg : fl_g k0 x) (m : fl_mm x g) (w : g 0 ≤ 12) {f d : Nat} {b : Bool} (hf : f < 64) (hd : d < 25) (e : fl_i x 273 f = fl_oi b d) : fl_Rn fl_C 140 213 [some (.ref 259), some (.int (Int32.ofNat f)), none, some (.int (Int32.ofNat 0))] [] x = some (some none, fl_wi x 275 (fl_seg (12 * f) (g 0) (fun k => if b = true then fl_i x 270 k else fl_i x 267 k) (fl_i x 275))) := by
  have hz := fl_oi_lt (b := b) (t := d) (by omega)
  have lp := fl_iter (fun k => fl_Rn fl_C 140 213 [some (.ref 259), some (.int (Int32.ofNat f)), none, some (.int (Int32.ofNat k))] [] (fl_wi x 275 (fl_seg (12 * f) k (fun k => if b = true then fl_i x 270 k else fl_i x 267 k) (fl_i x 275)))) (g 0) (by
    intro k hk
    try dsimp only
    have e95 := fr_95 (h := fl_wi x 275 (fl_seg (12 * f) k (fun k => if b = true then fl_i x 270 k else fl_i x 267 k) (fl_i x 275))) hg m
    have es := fl_seg_succ (a := 12 * f) (k := k) (f := fun k => if b = true then fl_i x 270 k else fl_i x 267 k) (old := fl_i x 275) rfl
    clear m
    rw [fbC_140_213, e95, fbP_140_218]
    cases b with
    | true =>
      simp only [if_true] at es
      simp (disch := omega) only [fl_k_wl, fl_r_wl, fl_i_wl, fl_l_wl, fl_1_wl, fl_k_wi, fl_r_wi, fl_l_wi, fl_1_wi, fl_i_wi, fl_k_si, fl_r_si, fl_l_si, fl_k_sl, fl_r_sl, fl_i_sl, fl_up_self, fl_up_ne, fl_si_wi, fl_sl_wl, fl_wi_wi, fl_wl_wl, hg.1, hg.2, fl_KM, fl_RM, fl_lit, fl_nadd, fl_nmul, fl_ndiv, fl_nsub, fl_msub, fl_nle, fl_nlt, fl_neq, fl_nclamp, fl_nin, fl_ltT, fl_ltF, fl_leT, fl_leF, fl_eqT, fl_eqF, decide_true, decide_false, Bool.true_and, Bool.and_true, Bool.false_and, Bool.and_false, if_true, if_false, Bool.false_eq_true, Option.isSome_some, Option.getD_some, not_true_eq_false, not_false_eq_true, Option.toList_some, Option.toList_none, List.cons_append, List.nil_append, e, hz, Bool.true_eq_false, fbC_140_231, fbC_140_255, fbC_140_256, es]
    | false =>
      simp only [Bool.false_eq_true, if_false] at es
      simp (disch := omega) only [fl_k_wl, fl_r_wl, fl_i_wl, fl_l_wl, fl_1_wl, fl_k_wi, fl_r_wi, fl_l_wi, fl_1_wi, fl_i_wi, fl_k_si, fl_r_si, fl_l_si, fl_k_sl, fl_r_sl, fl_i_sl, fl_up_self, fl_up_ne, fl_si_wi, fl_sl_wl, fl_wi_wi, fl_wl_wl, hg.1, hg.2, fl_KM, fl_RM, fl_lit, fl_nadd, fl_nmul, fl_ndiv, fl_nsub, fl_msub, fl_nle, fl_nlt, fl_neq, fl_nclamp, fl_nin, fl_ltT, fl_ltF, fl_leT, fl_leF, fl_eqT, fl_eqF, decide_true, decide_false, Bool.true_and, Bool.and_true, Bool.false_and, Bool.and_false, if_true, if_false, Bool.false_eq_true, Option.isSome_some, Option.getD_some, not_true_eq_false, not_false_eq_true, Option.toList_some, Option.toList_none, List.cons_append, List.nil_append, e, hz, fbC_140_231, fbC_140_255, fbC_140_256, es])
  have e0 : x = fl_wi x 275 (fl_seg (12 * f) 0 (fun k => if b = true then fl_i x 270 k else fl_i x 267 k) (fl_i x 275)) := (fl_wi_self fl_seg_0).symm
  have lp' := (congrArg (fun z => fl_Rn fl_C 140 213 [some (.ref 259), some (.int (Int32.ofNat f)), none, some (.int (Int32.ofNat 0))] [] z) e0).trans lp
  refine lp'.trans ?_
  try dsimp only
  have e95 := fr_95 (h := fl_wi x 275 (fl_seg (12 * f) (g 0) (fun k => if b = true then fl_i x 270 k else fl_i x 267 k) (fl_i x 275))) hg m
  clear m lp lp'
  rw [fbC_140_213, e95, fbP_140_218]
  simp (disch := omega) only [fl_k_wl, fl_r_wl, fl_i_wl, fl_l_wl, fl_1_wl, fl_k_wi, fl_r_wi, fl_l_wi, fl_1_wi, fl_i_wi, fl_k_si, fl_r_si, fl_l_si, fl_k_sl, fl_r_sl, fl_i_sl, fl_up_self, fl_up_ne, fl_si_wi, fl_sl_wl, fl_wi_wi, fl_wl_wl, hg.1, hg.2, fl_KM, fl_RM, fl_lit, fl_nadd, fl_nmul, fl_ndiv, fl_nsub, fl_msub, fl_nle, fl_nlt, fl_neq, fl_nclamp, fl_nin, fl_ltT, fl_ltF, fl_leT, fl_leF, fl_eqT, fl_eqF, decide_true, decide_false, Bool.true_and, Bool.and_true, Bool.false_and, Bool.and_false, if_true, if_false, Bool.false_eq_true, Option.isSome_some, Option.getD_some, not_true_eq_false, not_false_eq_true, Option.toList_some, Option.toList_none, List.cons_append, List.nil_append]
