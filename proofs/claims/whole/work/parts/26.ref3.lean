/-! THE REFERENCE: starts, lays, tick -/
theorem fr_132 {k0 : Nat → Nat × Nat} {h : fl_H} {g : Nat → Nat} (hg : fl_g k0 h) (m : fl_mm h g) (w : fl_wf g) : fl_cl fl_C 132 [.ref 259] h = some (some none, fl_wi h 267 (fl_ar (g 0) (fun k => g (40 + k)) (fl_i h 267))) := by
  have w1 := w.1
  have lp := fl_iter (fun k => fl_Rn fl_C 132 2 [some (.ref 259), some (.int (Int32.ofNat k))] [] (fl_wi h 267 (fl_ar k (fun k => g (40 + k)) (fl_i h 267)))) (g 0) (by
    intro k hk
    have hg' : fl_g k0 (fl_wi h 267 (fl_ar k (fun k => g (40 + k)) (fl_i h 267))) := hg
    have m' : fl_mm (fl_wi h 267 (fl_ar k (fun k => g (40 + k)) (fl_i h 267))) g := m
    try dsimp only
    rw [fbC_132_2, fr_95 hg' m', fbP_132_7, fbC_132_23, fbC_132_24, fbC_132_25]
    simp (disch := omega) only [fl_k_wl, fl_r_wl, fl_i_wl, fl_l_wl, fl_1_wl, fl_k_wi, fl_r_wi, fl_l_wi, fl_1_wi, fl_i_wi, fl_k_si, fl_r_si, fl_l_si, fl_k_sl, fl_r_sl, fl_i_sl, fl_up_self, fl_up_ne, fl_si_wi, fl_sl_wl, fl_wi_wi, fl_wl_wl, hg.1, hg.2, fl_KM, fl_RM, fl_lit, fl_nadd, fl_nmul, fl_ndiv, fl_nsub, fl_msub, fl_nle, fl_nlt, fl_neq, fl_nclamp, fl_nin, fl_ltT, fl_ltF, fl_leT, fl_leF, fl_eqT, fl_eqF, decide_true, decide_false, Bool.true_and, Bool.and_true, Bool.false_and, Bool.and_false, if_true, if_false, Bool.false_eq_true, Option.isSome_some, Option.getD_some, not_true_eq_false, not_false_eq_true, Option.toList_some, Option.toList_none, List.cons_append, List.nil_append, m, fl_si_wi, fl_wi_wi]
    rw [fl_ar_succ (f := fun k => g (40 + k))])
  rw [fbE_132]
  have e0 : h = fl_wi h 267 (fl_ar 0 (fun k => g (40 + k)) (fl_i h 267)) := (fl_wi_self fl_ar_0).symm
  have : fl_Rn fl_C 132 2 [some (.ref 259), some (.int 0)] [] h = _ := (congrArg (fun x => fl_Rn fl_C 132 2 [some (.ref 259), some (.int 0)] [] x) e0).trans lp
  have hg' : fl_g k0 (fl_wi h 267 (fl_ar (g 0) (fun k => g (40 + k)) (fl_i h 267))) := hg
  have m' : fl_mm (fl_wi h 267 (fl_ar (g 0) (fun k => g (40 + k)) (fl_i h 267))) g := m
  rw [this, fbC_132_2, fr_95 hg' m', fbP_132_7]
  simp (disch := omega) only [fl_k_wl, fl_r_wl, fl_i_wl, fl_l_wl, fl_1_wl, fl_k_wi, fl_r_wi, fl_l_wi, fl_1_wi, fl_i_wi, fl_k_si, fl_r_si, fl_l_si, fl_k_sl, fl_r_sl, fl_i_sl, fl_up_self, fl_up_ne, fl_si_wi, fl_sl_wl, fl_wi_wi, fl_wl_wl, hg.1, hg.2, fl_KM, fl_RM, fl_lit, fl_nadd, fl_nmul, fl_ndiv, fl_nsub, fl_msub, fl_nle, fl_nlt, fl_neq, fl_nclamp, fl_nin, fl_ltT, fl_ltF, fl_leT, fl_leF, fl_eqT, fl_eqF, decide_true, decide_false, Bool.true_and, Bool.and_true, Bool.false_and, Bool.and_false, if_true, if_false, Bool.false_eq_true, Option.isSome_some, Option.getD_some, not_true_eq_false, not_false_eq_true, Option.toList_some, Option.toList_none, List.cons_append, List.nil_append]
/-- one line laid -/
theorem fr_136s {k0 : Nat → Nat × Nat} {h : fl_H} {g : Nat → Nat} (hg : fl_g k0 h) (m : fl_mm h g) (w : fl_wf g) {pt : Nat} (hp : pt < 256) (hp2 : ∀ k, k < g 1 → pt / 4 ^ k % 4 ≤ 2) (f : Nat) {hd : Nat → Nat} (hh : ∀ k, k < g 0 → hd k ≤ 2) (hr : ∀ k, k < g 0 → g (4 + k) = 8 → fl_i h 267 k = Int32.ofNat (hd k)) {k : Nat} (hk : k < g 0) :
    fl_Rn fl_C 136 2 [some (.ref 259), some (.int (Int32.ofNat pt)), some (.int (fl_fi f)), some (.int (Int32.ofNat k))] [] (fl_wi h 266 (fl_ar k (fl_lay g f pt hd k) (fl_i h 266))) = fl_Rn fl_C 136 2 [some (.ref 259), some (.int (Int32.ofNat pt)), some (.int (fl_fi f)), some (.int (Int32.ofNat (k + 1)))] [] (fl_wi h 266 (fl_ar (k + 1) (fl_lay g f pt hd (k + 1)) (fl_i h 266))) := by
  have w1 := w.1
  have hg' : fl_g k0 (fl_wi h 266 (fl_ar k (fl_lay g f pt hd k) (fl_i h 266))) := hg
  have m' : fl_mm (fl_wi h 266 (fl_ar k (fl_lay g f pt hd k) (fl_i h 266))) g := m
  have fin : ∀ x, x = fl_stk f k (if k < g 1 then pt / 4 ^ k % 4 else if g (4 + k) = 8 then hd k else fl_gt g f (fl_lay g f pt hd k) k) → fl_Rn fl_C 136 83 [some (.ref 259), some (.int (Int32.ofNat pt)), some (.int (fl_fi f)), some (.int (Int32.ofNat k))] [] (fl_wi h 266 (fl_up (fl_ar k (fl_lay g f pt hd k) (fl_i h 266)) k (Int32.ofNat x))) = fl_Rn fl_C 136 2 [some (.ref 259), some (.int (Int32.ofNat pt)), some (.int (fl_fi f)), some (.int (Int32.ofNat (k + 1)))] [] (fl_wi h 266 (fl_ar (k + 1) (fl_lay g f pt hd (k + 1)) (fl_i h 266))) := by
    intro x hx
    rw [fbC_136_83, fl_ar_up, fl_succ, hx]
    rfl
  have e97 := fr_97 hg' m' w.2.2.2.2.2.2.2.2.1 (show k < 12 by omega)
  have hk3 : k < 12 := by omega
  have e95 := fr_95 hg' m'
  have e129 := fr_129 hg' m'
  have w0 : g 0 ≤ 12 := by omega
  have w4 : g 1 ≤ 4 := by omega
  rw [fbC_136_2, e95, fbP_136_7, e129, fbP_136_15]
  by_cases c1 : k < g 1
  · have ei := fl_inp pt hp k (by omega)
    have st : ∀ x, fl_stk f k (if k < g 1 then pt / 4 ^ k % 4 else x) = fl_stk f k (pt / 4 ^ k % 4) := fun x => by rw [if_pos c1]
    clear hh hr hp2 w1 w e97 m m'
    rcases (show f = 2 * k ∨ f = 2 * k + 1 ∨ (f ≠ 2 * k ∧ f ≠ 2 * k + 1) by omega) with c | c | c <;>
      simp (disch := omega) only [fl_k_wl, fl_r_wl, fl_i_wl, fl_l_wl, fl_1_wl, fl_k_wi, fl_r_wi, fl_l_wi, fl_1_wi, fl_i_wi, fl_k_si, fl_r_si, fl_l_si, fl_k_sl, fl_r_sl, fl_i_sl, fl_up_self, fl_up_ne, fl_si_wi, fl_sl_wl, fl_wi_wi, fl_wl_wl, hg.1, hg.2, fl_KM, fl_RM, fl_lit, fl_nadd, fl_nmul, fl_ndiv, fl_nsub, fl_msub, fl_nle, fl_nlt, fl_neq, fl_nclamp, fl_nin, fl_ltT, fl_ltF, fl_leT, fl_leF, fl_eqT, fl_eqF, decide_true, decide_false, Bool.true_and, Bool.and_true, Bool.false_and, Bool.and_false, if_true, if_false, Bool.false_eq_true, Option.isSome_some, Option.getD_some, not_true_eq_false, not_false_eq_true, Option.toList_some, Option.toList_none, List.cons_append, List.nil_append, fbE_133, fbP_136_23, ei, fl_si_wi, fl_wi_wi, fl_fi_eq] <;>
      exact fin _ (by rw [st]; unfold fl_stk; (repeat' split) <;> omega)
  · by_cases c8 : g (4 + k) = 8
    · have er := hr k hk c8
      have st : fl_stk f k (if k < g 1 then pt / 4 ^ k % 4 else if g (4 + k) = 8 then hd k else fl_gt g f (fl_lay g f pt hd k) k) = fl_stk f k (hd k) := by rw [if_neg c1, if_pos c8]
      rw [if_pos c8] at e97
      clear hh hr hp2 w1 w m m' hp
      rcases (show f = 2 * k ∨ f = 2 * k + 1 ∨ (f ≠ 2 * k ∧ f ≠ 2 * k + 1) by omega) with c | c | c <;>
        simp (disch := omega) only [fl_k_wl, fl_r_wl, fl_i_wl, fl_l_wl, fl_1_wl, fl_k_wi, fl_r_wi, fl_l_wi, fl_1_wi, fl_i_wi, fl_k_si, fl_r_si, fl_l_si, fl_k_sl, fl_r_sl, fl_i_sl, fl_up_self, fl_up_ne, fl_si_wi, fl_sl_wl, fl_wi_wi, fl_wl_wl, hg.1, hg.2, fl_KM, fl_RM, fl_lit, fl_nadd, fl_nmul, fl_ndiv, fl_nsub, fl_msub, fl_nle, fl_nlt, fl_neq, fl_nclamp, fl_nin, fl_ltT, fl_ltF, fl_leT, fl_leF, fl_eqT, fl_eqF, decide_true, decide_false, Bool.true_and, Bool.and_true, Bool.false_and, Bool.and_false, if_true, if_false, Bool.false_eq_true, Option.isSome_some, Option.getD_some, not_true_eq_false, not_false_eq_true, Option.toList_some, Option.toList_none, List.cons_append, List.nil_append, e97, fbP_136_31, er, fl_si_wi, fl_wi_wi, fl_fi_eq] <;>
        exact fin _ (by rw [st]; unfold fl_stk; (repeat' split) <;> omega)
    · have wk := w.2.2.1 k (by omega) hk
      have e135 := fr_135 hg' m' w.2.2.2.2.2.2.2.2.1 w0 hk3 ⟨wk.1, wk.2.1⟩ (by omega) (by omega) f (fl_lay g f pt hd k) (by
        intro i hi
        have h1 := w.2.2.2.1 k i (by omega) hk c8 hi
        refine ⟨by omega, ?_, fl_lay_le hp2 hh _ _ (by omega)⟩
        rw [fl_i_wi, if_pos rfl, fl_ar_lt h1])
      have st : fl_stk f k (if k < g 1 then pt / 4 ^ k % 4 else if g (4 + k) = 8 then hd k else fl_gt g f (fl_lay g f pt hd k) k) = fl_stk f k (fl_gt g f (fl_lay g f pt hd k) k) := by rw [if_neg c1, if_neg c8]
      rw [if_neg c8] at e97
      clear hh hr hp2 w1 w m m' hp wk
      rcases (show f = 2 * k ∨ f = 2 * k + 1 ∨ (f ≠ 2 * k ∧ f ≠ 2 * k + 1) by omega) with c | c | c <;>
        simp (disch := omega) only [fl_k_wl, fl_r_wl, fl_i_wl, fl_l_wl, fl_1_wl, fl_k_wi, fl_r_wi, fl_l_wi, fl_1_wi, fl_i_wi, fl_k_si, fl_r_si, fl_l_si, fl_k_sl, fl_r_sl, fl_i_sl, fl_up_self, fl_up_ne, fl_si_wi, fl_sl_wl, fl_wi_wi, fl_wl_wl, hg.1, hg.2, fl_KM, fl_RM, fl_lit, fl_nadd, fl_nmul, fl_ndiv, fl_nsub, fl_msub, fl_nle, fl_nlt, fl_neq, fl_nclamp, fl_nin, fl_ltT, fl_ltF, fl_leT, fl_leF, fl_eqT, fl_eqF, decide_true, decide_false, Bool.true_and, Bool.and_true, Bool.false_and, Bool.and_false, if_true, if_false, Bool.false_eq_true, Option.isSome_some, Option.getD_some, not_true_eq_false, not_false_eq_true, Option.toList_some, Option.toList_none, List.cons_append, List.nil_append, e97, fbP_136_31, e135, fbP_136_49, fl_si_wi, fl_wi_wi, fl_fi_eq] <;>
        exact fin _ (by rw [st]; unfold fl_stk; (repeat' split) <;> omega)
theorem fr_136 {k0 : Nat → Nat × Nat} {h : fl_H} {g : Nat → Nat} (hg : fl_g k0 h) (m : fl_mm h g) (w : fl_wf g) {pt : Nat} (hp : pt < 256) (hp2 : ∀ k, k < g 1 → pt / 4 ^ k % 4 ≤ 2) (f : Nat) {hd : Nat → Nat} (hh : ∀ k, k < g 0 → hd k ≤ 2) (hr : ∀ k, k < g 0 → g (4 + k) = 8 → fl_i h 267 k = Int32.ofNat (hd k)) : fl_cl fl_C 136 [.ref 259, .int (Int32.ofNat pt), .int (fl_fi f)] h = some (some none, fl_wi h 266 (fl_ar (g 0) (fl_lay g f pt hd (g 0)) (fl_i h 266))) := by
  have w1 := w.1
  have lp := fl_iter (fun k => fl_Rn fl_C 136 2 [some (.ref 259), some (.int (Int32.ofNat pt)), some (.int (fl_fi f)), some (.int (Int32.ofNat k))] [] (fl_wi h 266 (fl_ar k (fl_lay g f pt hd k) (fl_i h 266)))) (g 0) (fun k hk => fr_136s hg m w hp hp2 f hh hr hk)
  have e0 : h = fl_wi h 266 (fl_ar 0 (fl_lay g f pt hd 0) (fl_i h 266)) := (fl_wi_self fl_ar_0).symm
  have : fl_Rn fl_C 136 2 [some (.ref 259), some (.int (Int32.ofNat pt)), some (.int (fl_fi f)), some (.int 0)] [] h = _ := (congrArg (fun x => fl_Rn fl_C 136 2 [some (.ref 259), some (.int (Int32.ofNat pt)), some (.int (fl_fi f)), some (.int 0)] [] x) e0).trans lp
  have hg' : fl_g k0 (fl_wi h 266 (fl_ar (g 0) (fl_lay g f pt hd (g 0)) (fl_i h 266))) := hg
  have m' : fl_mm (fl_wi h 266 (fl_ar (g 0) (fl_lay g f pt hd (g 0)) (fl_i h 266))) g := m
  rw [fbE_136, this, fbC_136_2, fr_95 hg' m', fbP_136_7]
  simp (disch := omega) only [fl_k_wl, fl_r_wl, fl_i_wl, fl_l_wl, fl_1_wl, fl_k_wi, fl_r_wi, fl_l_wi, fl_1_wi, fl_i_wi, fl_k_si, fl_r_si, fl_l_si, fl_k_sl, fl_r_sl, fl_i_sl, fl_up_self, fl_up_ne, fl_si_wi, fl_sl_wl, fl_wi_wi, fl_wl_wl, hg.1, hg.2, fl_KM, fl_RM, fl_lit, fl_nadd, fl_nmul, fl_ndiv, fl_nsub, fl_msub, fl_nle, fl_nlt, fl_neq, fl_nclamp, fl_nin, fl_ltT, fl_ltF, fl_leT, fl_leF, fl_eqT, fl_eqF, decide_true, decide_false, Bool.true_and, Bool.and_true, Bool.false_and, Bool.and_false, if_true, if_false, Bool.false_eq_true, Option.isSome_some, Option.getD_some, not_true_eq_false, not_false_eq_true, Option.toList_some, Option.toList_none, List.cons_append, List.nil_append]
