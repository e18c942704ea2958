/-! THE REFERENCE: a tick, and runs of ticks -/
/-- the heap behind a tick -/
def fl_tk (h : fl_H) (g : Nat → Nat) (f pt : Nat) (hd : Nat → Nat) : fl_H := fl_wi (fl_wi h 266 (fl_ar (g 0) (fl_lay g f pt hd (g 0)) (fl_i h 266))) 267 (fl_ar (g 0) (fl_nh g f (fl_lay g f pt hd (g 0))) (fl_i h 267))
theorem fr_137 {k0 : Nat → Nat × Nat} {h : fl_H} {g : Nat → Nat} (hg : fl_g k0 h) (m : fl_mm h g) (w : fl_wf g) {pt : Nat} (hp : pt < 256) (hp2 : ∀ k, k < g 1 → pt / 4 ^ k % 4 ≤ 2) (f : Nat) {hd : Nat → Nat} (hh : ∀ k, k < g 0 → hd k ≤ 2) (hr : ∀ k, k < g 0 → g (4 + k) = 8 → fl_i h 267 k = Int32.ofNat (hd k)) : fl_cl fl_C 137 [.ref 259, .int (Int32.ofNat pt), .int (fl_fi f)] h = some (some none, fl_tk h g f pt hd) := by
  have w1 := w.1
  have e136 := fr_136 hg m w hp hp2 f hh hr
  have lp := fl_iter (fun k => fl_Rn fl_C 137 8 [some (.ref 259), none, some (.int (fl_fi f)), some (.int (Int32.ofNat k))] [] (fl_wi (fl_wi h 266 (fl_ar (g 0) (fl_lay g f pt hd (g 0)) (fl_i h 266))) 267 (fl_ar k (fl_nh g f (fl_lay g f pt hd (g 0))) (fl_i h 267)))) (g 0) (by
    intro k hk
    try dsimp only
    have hg' : fl_g k0 (fl_wi (fl_wi h 266 (fl_ar (g 0) (fl_lay g f pt hd (g 0)) (fl_i h 266))) 267 (fl_ar k (fl_nh g f (fl_lay g f pt hd (g 0))) (fl_i h 267))) := hg
    have m' : fl_mm (fl_wi (fl_wi h 266 (fl_ar (g 0) (fl_lay g f pt hd (g 0)) (fl_i h 266))) 267 (fl_ar k (fl_nh g f (fl_lay g f pt hd (g 0))) (fl_i h 267))) g := m
    have e95 := fr_95 hg' m'
    have e97 := fr_97 hg' m' w.2.2.2.2.2.2.2.2.1 (show k < 12 by omega)
    have hk3 : k < 12 := by omega
    have w00 : g 0 ≤ 12 := by omega
    have mk := m (16 + k) (by omega)
    have fin : ∀ x, x = fl_nh g f (fl_lay g f pt hd (g 0)) k → fl_wi (fl_wi h 266 (fl_ar (g 0) (fl_lay g f pt hd (g 0)) (fl_i h 266))) 267 (fl_up (fl_ar k (fl_nh g f (fl_lay g f pt hd (g 0))) (fl_i h 267)) k (Int32.ofNat x)) = fl_wi (fl_wi h 266 (fl_ar (g 0) (fl_lay g f pt hd (g 0)) (fl_i h 266))) 267 (fl_ar (k + 1) (fl_nh g f (fl_lay g f pt hd (g 0))) (fl_i h 267)) := fun x hx => by rw [hx, fl_ar_succ]
    rw [fbC_137_8, e95, fbP_137_13, e97]
    by_cases c8 : g (4 + k) = 8
    · have wk := w.2.2.1 k (by
        have := w.2.1 k
        omega) hk
      have w8 := wk.2.2.2.2.2.2.2.mp (by omega)
      have b16 := w.2.2.2.2.2.2.2.2.1 (16 + k) (by omega)
      have rd := w.2.2.2.2.1 (g (16 + k)) (by omega)
      have e134 := fr_134 hg' m' w.2.2.2.2.2.2.2.2.1 (show g 0 ≤ 12 by omega) (p := g (16 + k)) (by omega) f (fl_lay g f pt hd (g 0)) (by omega) (by
        rw [fl_i_wi, if_neg (by omega), fl_i_wi, if_pos rfl, fl_ar_lt rd])
      have fx := fin _ (show fl_pv g f (fl_lay g f pt hd (g 0)) (g (16 + k)) = fl_nh g f (fl_lay g f pt hd (g 0)) k from (if_pos c8).symm)
      rw [if_pos c8]
      clear hh hr hp2 w1 w e136 m m' hp wk
      simp (disch := omega) only [fl_k_wl, fl_r_wl, fl_i_wl, fl_l_wl, fl_1_wl, fl_k_wi, fl_r_wi, fl_l_wi, fl_1_wi, fl_i_wi, fl_k_si, fl_r_si, fl_l_si, fl_k_sl, fl_r_sl, fl_i_sl, fl_up_self, fl_up_ne, fl_si_wi, fl_sl_wl, fl_wi_wi, fl_wl_wl, hg.1, hg.2, fl_KM, fl_RM, fl_lit, fl_nadd, fl_nmul, fl_ndiv, fl_nsub, fl_msub, fl_nle, fl_nlt, fl_neq, fl_nclamp, fl_nin, fl_ltT, fl_ltF, fl_leT, fl_leF, fl_eqT, fl_eqF, decide_true, decide_false, Bool.true_and, Bool.and_true, Bool.false_and, Bool.and_false, if_true, if_false, Bool.false_eq_true, Option.isSome_some, Option.getD_some, not_true_eq_false, not_false_eq_true, Option.toList_some, Option.toList_none, List.cons_append, List.nil_append, fbP_137_26, fbC_137_38, mk, e134, fbP_137_43, fl_si_wi, fl_wi_wi, fx, fbC_137_48]
    · have fx := fin _ (show 2 = fl_nh g f (fl_lay g f pt hd (g 0)) k from (if_neg c8).symm)
      rw [if_neg c8]
      clear hh hr hp2 w1 w e136 m m' hp
      simp (disch := omega) only [fl_k_wl, fl_r_wl, fl_i_wl, fl_l_wl, fl_1_wl, fl_k_wi, fl_r_wi, fl_l_wi, fl_1_wi, fl_i_wi, fl_k_si, fl_r_si, fl_l_si, fl_k_sl, fl_r_sl, fl_i_sl, fl_up_self, fl_up_ne, fl_si_wi, fl_sl_wl, fl_wi_wi, fl_wl_wl, hg.1, hg.2, fl_KM, fl_RM, fl_lit, fl_nadd, fl_nmul, fl_ndiv, fl_nsub, fl_msub, fl_nle, fl_nlt, fl_neq, fl_nclamp, fl_nin, fl_ltT, fl_ltF, fl_leT, fl_leF, fl_eqT, fl_eqF, decide_true, decide_false, Bool.true_and, Bool.and_true, Bool.false_and, Bool.and_false, if_true, if_false, Bool.false_eq_true, Option.isSome_some, Option.getD_some, not_true_eq_false, not_false_eq_true, Option.toList_some, Option.toList_none, List.cons_append, List.nil_append, fbP_137_26, fl_si_wi, fl_wi_wi, fx, fbC_137_48])
  have e0 : fl_wi h 266 (fl_ar (g 0) (fl_lay g f pt hd (g 0)) (fl_i h 266)) = fl_wi (fl_wi h 266 (fl_ar (g 0) (fl_lay g f pt hd (g 0)) (fl_i h 266))) 267 (fl_ar 0 (fl_nh g f (fl_lay g f pt hd (g 0))) (fl_i h 267)) := (fl_wi_self fl_ar_0).symm
  have : fl_Rn fl_C 137 8 [some (.ref 259), none, some (.int (fl_fi f)), some (.int 0)] [] (fl_wi h 266 (fl_ar (g 0) (fl_lay g f pt hd (g 0)) (fl_i h 266))) = _ := (congrArg (fun x => fl_Rn fl_C 137 8 [some (.ref 259), none, some (.int (fl_fi f)), some (.int 0)] [] x) e0).trans lp
  have hg' : fl_g k0 (fl_wi (fl_wi h 266 (fl_ar (g 0) (fl_lay g f pt hd (g 0)) (fl_i h 266))) 267 (fl_ar (g 0) (fl_nh g f (fl_lay g f pt hd (g 0))) (fl_i h 267))) := hg
  have m' : fl_mm (fl_wi (fl_wi h 266 (fl_ar (g 0) (fl_lay g f pt hd (g 0)) (fl_i h 266))) 267 (fl_ar (g 0) (fl_nh g f (fl_lay g f pt hd (g 0))) (fl_i h 267))) g := m
  rw [fbE_137, e136, fbP_137_6, this, fbC_137_8, fr_95 hg' m', fbP_137_13]
  simp (disch := omega) only [fl_k_wl, fl_r_wl, fl_i_wl, fl_l_wl, fl_1_wl, fl_k_wi, fl_r_wi, fl_l_wi, fl_1_wi, fl_i_wi, fl_k_si, fl_r_si, fl_l_si, fl_k_sl, fl_r_sl, fl_i_sl, fl_up_self, fl_up_ne, fl_si_wi, fl_sl_wl, fl_wi_wi, fl_wl_wl, hg.1, hg.2, fl_KM, fl_RM, fl_lit, fl_nadd, fl_nmul, fl_ndiv, fl_nsub, fl_msub, fl_nle, fl_nlt, fl_neq, fl_nclamp, fl_nin, fl_ltT, fl_ltF, fl_leT, fl_leF, fl_eqT, fl_eqF, decide_true, decide_false, Bool.true_and, Bool.and_true, Bool.false_and, Bool.and_false, if_true, if_false, Bool.false_eq_true, Option.isSome_some, Option.getD_some, not_true_eq_false, not_false_eq_true, Option.toList_some, Option.toList_none, List.cons_append, List.nil_append]
  rfl
