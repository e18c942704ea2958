/-! THE REFERENCE: runs of ticks -/
theorem fl_g_fx {k0 : Nat → Nat × Nat} {S : Nat → Prop} {h h' : fl_H} (hg : fl_g k0 h) (f : fl_fx S h h') : fl_g k0 h' := ⟨f.2.1.trans hg.1, f.2.2.1.trans hg.2⟩
theorem fl_mm_fx {S : Nat → Prop} {h h' : fl_H} {g : Nat → Nat} (m : fl_mm h g) (f : fl_fx S h h') (hs : ¬ S 262) : fl_mm h' g := fun j hj => by rw [f.2.2.2.2 262 hs]; exact m j hj
/-- the row of patterns is laid out -/
abbrev fl_ls (h : fl_H) (n : Nat) (ps : Nat → Nat) : Prop := n ≤ 24 ∧ fl_i h 259 16 = Int32.ofNat n ∧ ∀ t, t < n → fl_i h 268 t = Int32.ofNat (ps t)
theorem fl_ls_fx {S : Nat → Prop} {h h' : fl_H} {n : Nat} {ps : Nat → Nat} (m : fl_ls h n ps) (f : fl_fx S h h') (h1 : ¬ S 259) (h2 : ¬ S 268) : fl_ls h' n ps := ⟨m.1, by rw [f.2.2.2.2 259 h1]; exact m.2.1, fun t ht => by rw [f.2.2.2.2 268 h2]; exact m.2.2 t ht⟩
/-- the good circuit's run is laid out -/
abbrev fl_gd (h' : fl_H) (g : Nat → Nat) (n : Nat) (ps : Nat → Nat) : Prop := (∀ t, t < n → ∀ k, k < g 0 → fl_i h' 269 (12 * t + k) = Int32.ofNat (fl_vl g 64 ps t k)) ∧ ∀ k, k < g 0 → fl_i h' 270 k = Int32.ofNat (fl_hd g 64 ps n k)
theorem fl_gd_fx {S : Nat → Prop} {h h' : fl_H} {g : Nat → Nat} {n : Nat} {ps : Nat → Nat} (m : fl_gd h g n ps) (f : fl_fx S h h') (h1 : ¬ S 269) (h2 : ¬ S 270) : fl_gd h' g n ps := ⟨fun t ht k hk => by rw [f.2.2.2.2 269 h1]; exact m.1 t ht k hk, fun k hk => by rw [f.2.2.2.2 270 h2]; exact m.2 k hk⟩
theorem fl_tk_fx {h : fl_H} {g : Nat → Nat} {f pt : Nat} {hd : Nat → Nat} : fl_fx (fun b => b = 266 ∨ b = 267) h (fl_tk h g f pt hd) := fl_fx_wi (fl_fx_wi fl_fx_rfl (Or.inl rfl)) (Or.inr rfl)
theorem fl_tk_val {h : fl_H} {g : Nat → Nat} {f pt : Nat} {hd : Nat → Nat} {k : Nat} (hk : k < g 0) : fl_i (fl_tk h g f pt hd) 266 k = Int32.ofNat (fl_lay g f pt hd (g 0) k) := by
  unfold fl_tk
  rw [fl_i_wi, if_neg (by omega), fl_i_wi, if_pos rfl, fl_ar_lt hk]
theorem fl_tk_hold {h : fl_H} {g : Nat → Nat} {f pt : Nat} {hd : Nat → Nat} {k : Nat} (hk : k < g 0) : fl_i (fl_tk h g f pt hd) 267 k = Int32.ofNat (fl_nh g f (fl_lay g f pt hd (g 0)) k) := by
  unfold fl_tk
  rw [fl_i_wi, if_pos rfl, fl_ar_lt hk]
/-- the values of a tick, kept -/
theorem fr_138r {k0 : Nat → Nat × Nat} {h : fl_H} {g : Nat → Nat} (hg : fl_g k0 h) (m : fl_mm h g) (w : fl_wf g) {t : Nat} (ht : t < 24) : fl_Rn fl_C 138 27 [some (.ref 259), some (.int (Int32.ofNat t)), some (.int (Int32.ofNat 0))] [] h = fl_Rn fl_C 138 6 [some (.ref 259), some (.int (Int32.ofNat (t + 1)))] [] (fl_wi h 269 (fl_seg (12 * t) (g 0) (fl_i h 266) (fl_i h 269))) := by
  have w1 : g 0 ≤ 12 := w.1.2.2.2.1
  have lp := fl_iter (fun k => fl_Rn fl_C 138 27 [some (.ref 259), some (.int (Int32.ofNat t)), some (.int (Int32.ofNat k))] [] (fl_wi h 269 (fl_seg (12 * t) k (fl_i h 266) (fl_i h 269)))) (g 0) (by
    intro k hk
    try dsimp only
    have hg' : fl_g k0 (fl_wi h 269 (fl_seg (12 * t) k (fl_i h 266) (fl_i h 269))) := hg
    have m' : fl_mm (fl_wi h 269 (fl_seg (12 * t) k (fl_i h 266) (fl_i h 269))) g := m
    have e95 := fr_95 hg' m'
    have e : fl_up (fl_seg (12 * t) k (fl_i h 266) (fl_i h 269)) (12 * t + k) (fl_i h 266 k) = fl_seg (12 * t) (k + 1) (fl_i h 266) (fl_i h 269) := fl_seg_succ rfl
    clear w m m'
    rw [fbC_138_27, e95, fbP_138_32]
    simp (disch := omega) only [fl_k_wl, fl_r_wl, fl_i_wl, fl_l_wl, fl_1_wl, fl_k_wi, fl_r_wi, fl_l_wi, fl_1_wi, fl_i_wi, fl_k_si, fl_r_si, fl_l_si, fl_k_sl, fl_r_sl, fl_i_sl, fl_up_self, fl_up_ne, fl_si_wi, fl_sl_wl, fl_wi_wi, fl_wl_wl, hg.1, hg.2, fl_KM, fl_RM, fl_lit, fl_nadd, fl_nmul, fl_ndiv, fl_nsub, fl_msub, fl_nle, fl_nlt, fl_neq, fl_nclamp, fl_nin, fl_ltT, fl_ltF, fl_leT, fl_leF, fl_eqT, fl_eqF, decide_true, decide_false, Bool.true_and, Bool.and_true, Bool.false_and, Bool.and_false, if_true, if_false, Bool.false_eq_true, Option.isSome_some, Option.getD_some, not_true_eq_false, not_false_eq_true, Option.toList_some, Option.toList_none, List.cons_append, List.nil_append, fbC_138_45, fbC_138_51, fbC_138_52, fl_si_wi, fl_wi_wi, e])
  have e0 : h = fl_wi h 269 (fl_seg (12 * t) 0 (fl_i h 266) (fl_i h 269)) := (fl_wi_self fl_seg_0).symm
  have lp' := (congrArg (fun x => fl_Rn fl_C 138 27 [some (.ref 259), some (.int (Int32.ofNat t)), some (.int (Int32.ofNat 0))] [] x) e0).trans lp
  have hg' : fl_g k0 (fl_wi h 269 (fl_seg (12 * t) (g 0) (fl_i h 266) (fl_i h 269))) := hg
  have m' : fl_mm (fl_wi h 269 (fl_seg (12 * t) (g 0) (fl_i h 266) (fl_i h 269))) g := m
  refine lp'.trans ?_
  try dsimp only
  have e95 := fr_95 hg' m'
  clear w m m' lp lp'
  rw [fbC_138_27, e95, fbP_138_32]
  simp (disch := omega) only [fl_k_wl, fl_r_wl, fl_i_wl, fl_l_wl, fl_1_wl, fl_k_wi, fl_r_wi, fl_l_wi, fl_1_wi, fl_i_wi, fl_k_si, fl_r_si, fl_l_si, fl_k_sl, fl_r_sl, fl_i_sl, fl_up_self, fl_up_ne, fl_si_wi, fl_sl_wl, fl_wi_wi, fl_wl_wl, hg.1, hg.2, fl_KM, fl_RM, fl_lit, fl_nadd, fl_nmul, fl_ndiv, fl_nsub, fl_msub, fl_nle, fl_nlt, fl_neq, fl_nclamp, fl_nin, fl_ltT, fl_ltF, fl_leT, fl_leF, fl_eqT, fl_eqF, decide_true, decide_false, Bool.true_and, Bool.and_true, Bool.false_and, Bool.and_false, if_true, if_false, Bool.false_eq_true, Option.isSome_some, Option.getD_some, not_true_eq_false, not_false_eq_true, Option.toList_some, Option.toList_none, List.cons_append, List.nil_append]
