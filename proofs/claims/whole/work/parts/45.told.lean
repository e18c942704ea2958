/-! WHAT IS TOLD, by both; quiet calls -/
def fl_qt (h h' : fl_H) : Prop := h'.1 = h.1 ∧ fl_k h' = fl_k h ∧ fl_r h' = fl_r h ∧ fl_l h' = fl_l h ∧ ∀ q j, ¬ fl_scr q j → fl_i h' q j = fl_i h q j
def fl_qo (h h' : fl_H) : Prop := h'.1 = h.1 ∧ fl_k h' = fl_k h ∧ fl_r h' = fl_r h ∧ (∀ q, q ≠ 6 → q ≠ 260 → fl_l h' q = fl_l h q) ∧ ∀ q j, ¬ fl_scr q j → ¬ (q = 259 ∧ j = 1) → ¬ (q = 4 ∧ j = 2) → fl_i h' q j = fl_i h q j
section
variable {k0 : Nat → Nat × Nat} {h h' h'' : fl_H} {c : Nat × Nat × Nat × Bool}
theorem fl_qt_qo (a : fl_qt h h') : fl_qo h h' := ⟨a.1, a.2.1, a.2.2.1, fun q _ _ => by rw [a.2.2.2.1], fun q j h1 _ _ => a.2.2.2.2 q j h1⟩
theorem fl_qt_tr (a : fl_qt h h') (b : fl_qt h' h'') : fl_qt h h'' := ⟨b.1.trans a.1, b.2.1.trans a.2.1, b.2.2.1.trans a.2.2.1, b.2.2.2.1.trans a.2.2.2.1, fun q j hs => (b.2.2.2.2 q j hs).trans (a.2.2.2.2 q j hs)⟩
theorem fl_qo_tr (a : fl_qo h h') (b : fl_qo h' h'') : fl_qo h h'' := ⟨b.1.trans a.1, b.2.1.trans a.2.1, b.2.2.1.trans a.2.2.1, fun q h1 h2 => (b.2.2.2.1 q h1 h2).trans (a.2.2.2.1 q h1 h2), fun q j h1 h2 h3 => (b.2.2.2.2 q j h1 h2 h3).trans (a.2.2.2.2 q j h1 h2 h3)⟩
theorem fl_qo_g (hg : fl_g k0 h) (a : fl_qo h h') : fl_g k0 h' := ⟨a.2.1.trans hg.1, a.2.2.1.trans hg.2⟩
theorem fl_qo_mm {g : Nat → Nat} (m : fl_mm h g) (a : fl_qo h h') : fl_mm h' g := fun j hj => by rw [a.2.2.2.2 262 j (by omega) (by omega) (by omega)]; exact m j hj
theorem fl_qt_0 {x : Int32} : fl_qt h (fl_wi h 259 (fl_up (fl_i h 259) 0 x)) := ⟨fl_1_wi, fl_k_wi, fl_r_wi, fl_l_wi, fun q j hs => by
  rw [fl_i_wi]
  by_cases e : q = 259
  · subst e
    rw [if_pos rfl, fl_up_ne (by omega)]
  · rw [if_neg e]⟩
theorem fl_qt_all {g : Nat → Nat} (a : fl_all2 h h' g) : fl_qt h h' := ⟨a.1.1, a.1.2.1, a.1.2.2.1, a.1.2.2.2.1, fun q j hs => by
  by_cases e : q = 259
  · subst e
    exact a.2.1 j (by omega)
  · rw [a.1.2.2.2.2 q (by omega)]⟩
theorem fl_Inv_qo (I : fl_Inv k0 c h) (a : fl_qo h h') {n : Nat} {rv : Nat → Int64} (hn : n ≤ 6) (e1 : fl_i h' 259 1 = Int32.ofNat n) (e2 : fl_i h' 4 2 = Int32.ofNat n) (e3 : ∀ j, j < n → fl_l h' 260 j = rv j ∧ fl_l h' 6 j = rv j) : fl_Inv k0 c h' := by
  obtain ⟨hg, hc, ⟨tn, tx, iT⟩, ⟨rn, rw0, iO⟩, ⟨cn, ck, cm, iC⟩, g, g1, g2, b1, b2, s, s1, s2, iG⟩ := I
  have ei : ∀ q, q ≠ 259 → q ≠ 4 → (q < 266 ∨ 282 < q) → fl_i h' q = fl_i h q := fun q h1 h2 h3 => by
    funext j
    exact a.2.2.2.2 q j (by omega) (by omega) (by omega)
  have el : ∀ q, q ≠ 6 → q ≠ 260 → fl_l h' q = fl_l h q := a.2.2.2.1
  refine ⟨fl_qo_g hg a, a.1.trans hc, ⟨tn, tx, ?_⟩, ⟨n, rv, hn, e1, ?_, e2, e3⟩, ⟨cn, ck, cm, ?_⟩, g, g1, g2, b1, b2, s, s1, s2, ?_⟩
  · exact fl_iT_fr iT (a.2.2.2.2 259 4 (by omega) (by omega) (by omega)) (ei 261 (by omega) (by omega) (by omega)) (ei 1 (by omega) (by omega) (by omega)) (el 3 (by omega) (by omega))
  · rw [a.2.2.2.2 4 1 (by omega) (by omega) (by omega)]; exact iO.2.2.1
  · exact fl_iC_fr iC (a.2.2.2.2 259 11 (by omega) (by omega) (by omega)) (ei 264 (by omega) (by omega) (by omega)) (ei 265 (by omega) (by omega) (by omega)) (ei 21 (by omega) (by omega) (by omega)) (ei 24 (by omega) (by omega) (by omega)) (el 23 (by omega) (by omega)) (el 26 (by omega) (by omega))
  · exact fl_iG_fr iG (ei 262 (by omega) (by omega) (by omega)) (el 263 (by omega) (by omega)) (by rw [ei 0 (by omega) (by omega) (by omega)]) (by rw [ei 0 (by omega) (by omega) (by omega)]) (ei 283 (by omega) (by omega) (by omega)) (fun q h1 h2 => ⟨ei q (by omega) (by omega) (by omega), el q (by omega) (by omega)⟩)
theorem fl_Inv_qt (I : fl_Inv k0 c h) (a : fl_qt h h') : fl_Inv k0 c h' := by
  obtain ⟨rn, rv, iO⟩ := I.2.2.2.1
  exact fl_Inv_qo I (fl_qt_qo a) iO.1 (by rw [a.2.2.2.2 259 1 (by omega)]; exact iO.2.1) (by rw [a.2.2.2.2 4 2 (by omega)]; exact iO.2.2.2.1) (fun j hj => by rw [a.2.2.2.1]; exact iO.2.2.2.2 j hj)
/-- one number more in the class's row; in the reference's -/
def fl_tc6 (h : fl_H) (n : Nat) (x : Int64) : fl_H := fl_wi (fl_wl h 6 (fl_up (fl_l h 6) n x)) 4 (fl_up (fl_i h 4) 2 (Int32.ofNat (n + 1)))
def fl_ae (h : fl_H) (n : Nat) (x : Int64) : fl_H := fl_wi (fl_wl h 260 (fl_up (fl_l h 260) n x)) 259 (fl_up (fl_i h 259) 1 (Int32.ofNat (n + 1)))
def fl_a0 (h : fl_H) : fl_H := fl_wi h 259 (fl_up (fl_i h 259) 1 (Int32.ofNat 0))
theorem fl_tc6_qo {n : Nat} {x : Int64} : fl_qo h (fl_tc6 h n x) := by
  unfold fl_tc6
  refine ⟨by rw [fl_1_wi, fl_1_wl], by rw [fl_k_wi, fl_k_wl], by rw [fl_r_wi, fl_r_wl], fun q h1 _ => by rw [fl_l_wi, fl_l_wl, if_neg h1], fun q j h1 h2 h3 => ?_⟩
  rw [fl_i_wi, fl_i_wl]
  by_cases e : q = 4
  · subst e; rw [if_pos rfl, fl_up_ne (by omega)]
  · rw [if_neg e]
theorem fl_ae_qo {n : Nat} {x : Int64} : fl_qo h (fl_ae h n x) := by
  unfold fl_ae
  refine ⟨by rw [fl_1_wi, fl_1_wl], by rw [fl_k_wi, fl_k_wl], by rw [fl_r_wi, fl_r_wl], fun q _ h1 => by rw [fl_l_wi, fl_l_wl, if_neg h1], fun q j h1 h2 h3 => ?_⟩
  rw [fl_i_wi, fl_i_wl]
  by_cases e : q = 259
  · subst e; rw [if_pos rfl, fl_up_ne (by omega)]
  · rw [if_neg e]
theorem fl_a0_qo : fl_qo h (fl_a0 h) := by
  unfold fl_a0
  refine ⟨by rw [fl_1_wi], by rw [fl_k_wi], by rw [fl_r_wi], fun q _ h1 => by rw [fl_l_wi], fun q j h1 h2 h3 => ?_⟩
  rw [fl_i_wi]
  by_cases e : q = 259
  · subst e; rw [if_pos rfl, fl_up_ne (by omega)]
  · rw [if_neg e]
theorem fl_tc6_n {n : Nat} {x : Int64} : fl_i (fl_tc6 h n x) 4 2 = Int32.ofNat (n + 1) := by
  unfold fl_tc6; rw [fl_i_wi, if_pos rfl, fl_up_self]
theorem fl_tc6_r {n : Nat} {x : Int64} : fl_i (fl_tc6 h n x) 4 1 = fl_i h 4 1 := by
  unfold fl_tc6; rw [fl_i_wi, if_pos rfl, fl_up_ne (by omega)]
theorem fl_tc6_l {n : Nat} {x : Int64} : fl_l (fl_tc6 h n x) 6 = fl_up (fl_l h 6) n x := by
  unfold fl_tc6; rw [fl_l_wi, fl_l_wl, if_pos rfl]
theorem fl_tc6_l2 {n : Nat} {x : Int64} : fl_l (fl_tc6 h n x) 260 = fl_l h 260 := by
  unfold fl_tc6; rw [fl_l_wi, fl_l_wl, if_neg (by omega)]
theorem fl_ae_n {n : Nat} {x : Int64} : fl_i (fl_ae h n x) 259 1 = Int32.ofNat (n + 1) := by
  unfold fl_ae; rw [fl_i_wi, if_pos rfl, fl_up_self]
theorem fl_ae_4 {n : Nat} {x : Int64} : fl_i (fl_ae h n x) 4 = fl_i h 4 := by
  unfold fl_ae; rw [fl_i_wi, if_neg (by omega), fl_i_wl]
theorem fl_ae_l {n : Nat} {x : Int64} : fl_l (fl_ae h n x) 260 = fl_up (fl_l h 260) n x := by
  unfold fl_ae; rw [fl_l_wi, fl_l_wl, if_pos rfl]
theorem fl_ae_l2 {n : Nat} {x : Int64} : fl_l (fl_ae h n x) 6 = fl_l h 6 := by
  unfold fl_ae; rw [fl_l_wi, fl_l_wl, if_neg (by omega)]
theorem fl_a0_n : fl_i (fl_a0 h) 259 1 = Int32.ofNat 0 := by
  unfold fl_a0; rw [fl_i_wi, if_pos rfl, fl_up_self]
theorem fc_add (hg : fl_g k0 h) {n : Nat} (hn : n < 6) (e1 : fl_i h 4 1 = Int32.ofNat 6) (e2 : fl_i h 4 2 = Int32.ofNat n) (x : Int64) : fl_cl fl_C 32 [.ref 4, .long x] h = some (some none, fl_tc6 h n x) := by
  have o := fl_o4 (k0 := k0)
  have pt := fc_put o.2 hg hn x
  have o1 := o.1
  have o2 := o.2.1
  unfold fl_tc6
  rw [fbE_32]
  simp (disch := omega) only [fl_k_wl, fl_r_wl, fl_i_wl, fl_l_wl, fl_1_wl, fl_k_wi, fl_r_wi, fl_l_wi, fl_1_wi, fl_i_wi, fl_k_si, fl_r_si, fl_l_si, fl_k_sl, fl_r_sl, fl_i_sl, fl_up_self, fl_up_ne, fl_si_wi, fl_sl_wl, fl_wi_wi, fl_wl_wl, hg.1, hg.2, o1, o2, e1, e2, fl_lit, fl_nadd, fl_nmul, fl_ndiv, fl_nsub, fl_msub, fl_nle, fl_nlt, fl_neq, fl_nclamp, fl_nin, fl_ltT, fl_ltF, fl_leT, fl_leF, fl_eqT, fl_eqF, decide_true, decide_false, Bool.true_and, Bool.and_true, Bool.false_and, Bool.and_false, if_true, if_false, Bool.false_eq_true, Option.isSome_some, Option.getD_some, not_true_eq_false, not_false_eq_true, Option.toList_some, Option.toList_none, List.cons_append, List.nil_append, pt, fbP_32_23, fbC_32_33]
theorem fc_tell (hg : fl_g k0 h) (e1 : fl_i h 4 1 = Int32.ofNat 6) (x : Int64) : fl_cl fl_C 125 [.ref 0, .long x] h = some (some none, fl_tc6 h 0 x) := by
  have o := fl_o4 (k0 := k0)
  have hg1 : fl_g k0 (fl_wi h 4 (fl_up (fl_i h 4) 2 (Int32.ofNat 0))) := ⟨by rw [fl_k_wi]; exact hg.1, by rw [fl_r_wi]; exact hg.2⟩
  have a := fc_add hg1 (n := 0) (by omega) (by rw [fl_i_wi, if_pos rfl, fl_up_ne (by omega)]; exact e1) (by rw [fl_i_wi, if_pos rfl, fl_up_self]) x
  have e : fl_tc6 (fl_wi h 4 (fl_up (fl_i h 4) 2 (Int32.ofNat 0))) 0 x = fl_tc6 h 0 x := by
    unfold fl_tc6
    rw [fl_l_wi, fl_i_wi, if_pos rfl, fl_up_up]
    refine fl_H_ext rfl rfl rfl ?_ rfl
    funext b
    rw [fl_i_wi, fl_i_wi, fl_i_wl, fl_i_wl, fl_i_wi]
    by_cases z : b = 4
    · rw [if_pos z, if_pos z]
    · rw [if_neg z, if_neg z, if_neg z]
  rw [e] at a
  have o1 := o.1
  rw [fbE_125]
  simp (disch := omega) only [fl_k_wl, fl_r_wl, fl_i_wl, fl_l_wl, fl_1_wl, fl_k_wi, fl_r_wi, fl_l_wi, fl_1_wi, fl_i_wi, fl_k_si, fl_r_si, fl_l_si, fl_k_sl, fl_r_sl, fl_i_sl, fl_up_self, fl_up_ne, fl_si_wi, fl_sl_wl, fl_wi_wi, fl_wl_wl, hg.1, hg.2, fl_KF, fl_RF, o1, fl_lit, fl_nadd, fl_nmul, fl_ndiv, fl_nsub, fl_msub, fl_nle, fl_nlt, fl_neq, fl_nclamp, fl_nin, fl_ltT, fl_ltF, fl_leT, fl_leF, fl_eqT, fl_eqF, decide_true, decide_false, Bool.true_and, Bool.and_true, Bool.false_and, Bool.and_false, if_true, if_false, Bool.false_eq_true, Option.isSome_some, Option.getD_some, not_true_eq_false, not_false_eq_true, Option.toList_some, Option.toList_none, List.cons_append, List.nil_append, fbE_40, fbP_125_7, a, fbP_125_15]
end
