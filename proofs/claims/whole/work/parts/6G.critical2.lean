/-! critical: the reference's side; both alike -/
section
variable {k0 : Nat → Nat × Nat} {h : fl_H} {g : Nat → Nat} {c : Nat × Nat × Nat × Bool} {s : Int64}
/-- the value of an output, a line being turned over -/
theorem fr_192 (hg : fl_g k0 h) (m : fl_mm h g) (w : fl_wf g) (hn : 0 < g 76) (l16 : fl_i h 259 16 = Int32.ofNat (g 76)) (hgd : ∀ k, k < g 0 → fl_i h 269 (12 * (g 76 - 1) + k) = Int32.ofNat (fl_gl g k)) {k o : Nat} (hk : k < g 0) (ho : o < g 0) (h2 : fl_gl g k ≤ 1) : fl_cl fl_C 192 [.ref 259, .int (Int32.ofNat k), .int (Int32.ofNat o)] h = some (some (some (.int (Int32.ofNat (fl_tv g k (g 0) o)))), fl_wi h 266 (fl_ar (g 0) (fl_tv g k (g 0)) (fl_i h 266))) := by
  have w1 := w.1
  have w0 : g 0 ≤ 12 := w1.2.2.2.1
  have w7 : g 76 ≤ 24 := w1.2.2.2.2.2.2.2.1
  have wb := w.2.2.2.2.2.2.2.2.1
  have st : fl_cl fl_C 192 [.ref 259, .int (Int32.ofNat k), .int (Int32.ofNat o)] h = fl_Rn fl_C 192 13 [some (.ref 259), some (.int (Int32.ofNat k)), some (.int (Int32.ofNat o)), some (.int (Int32.ofNat (12 * (g 76 - 1)))), some (.int (Int32.ofNat 0))] [] (fl_wi h 266 (fl_ar 0 (fl_tv g k 0) (fl_i h 266))) := by
    rw [fl_ar_0, fl_wi_self rfl]
    clear w w1 m hgd
    rw [fbE_192]
    simp (disch := omega) only [hg.1, fl_KM, fl_RM, fl_lit, fl_nadd, fl_nmul, fl_ndiv, fl_nsub, fl_msub, fl_nle, fl_nlt, fl_neq, fl_nclamp, fl_nin, fl_ltT, fl_ltF, fl_leT, fl_leF, fl_eqT, fl_eqF, decide_true, decide_false, Bool.true_and, Bool.and_true, Bool.false_and, Bool.and_false, if_true, if_false, Bool.false_eq_true, Option.isSome_some, Option.getD_some, not_true_eq_false, not_false_eq_true, Option.toList_some, Option.toList_none, List.cons_append, List.nil_append, l16]
  have lp := fl_iter (fun j => fl_Rn fl_C 192 13 [some (.ref 259), some (.int (Int32.ofNat k)), some (.int (Int32.ofNat o)), some (.int (Int32.ofNat (12 * (g 76 - 1)))), some (.int (Int32.ofNat j))] [] (fl_wi h 266 (fl_ar j (fl_tv g k j) (fl_i h 266)))) (g 0) (fun j hj => by
    have gx : fl_g k0 (fl_wi h 266 (fl_ar j (fl_tv g k j) (fl_i h 266))) := ⟨by rw [fl_k_wi]; exact hg.1, by rw [fl_r_wi]; exact hg.2⟩
    have mx : fl_mm (fl_wi h 266 (fl_ar j (fl_tv g k j) (fl_i h 266))) g := fun i hi => by rw [fl_i_wi, if_neg (by omega)]; exact m i hi
    have e95 := fr_95 gx mx
    have e129 := fr_129 gx mx
    have e97 := fr_97 gx mx wb (k := j) (by omega)
    have gj : fl_i (fl_wi h 266 (fl_ar j (fl_tv g k j) (fl_i h 266))) 269 (12 * (g 76 - 1) + j) = Int32.ofNat (fl_gl g j) := by rw [fl_i_wi, if_neg (by omega)]; exact hgd j hj
    have ts := fl_tv_s w hk hj h2
    have up : fl_tv g k (j + 1) = fl_up (fl_tv g k j) j (fl_tv g k (j + 1) j) := by
      have : fl_tv g k (j + 1) = fl_up (fl_tv g k j) j (fl_stk (2 * k + 1 - fl_gl g k) j (if j < g 1 then fl_pl g / 4 ^ j % 4 else if g (4 + j) = 8 then fl_gl g j else fl_gt g (2 * k + 1 - fl_gl g k) (fl_tv g k j) j)) := rfl
      rw [this, fl_up_self]
    have ar : ∀ x, x = fl_tv g k (j + 1) j → fl_up (fl_ar j (fl_tv g k j) (fl_i h 266)) j (Int32.ofNat x) = fl_ar (j + 1) (fl_tv g k (j + 1)) (fl_i h 266) := fun x hx => by rw [fl_ar_up, hx, ← up]
    have e135 : g 1 ≤ j → g (4 + j) ≠ 8 → fl_cl fl_C 135 [.ref 259, .int (Int32.ofNat j), .int (-Int32.ofNat 1)] (fl_wi h 266 (fl_ar j (fl_tv g k j) (fl_i h 266))) = some (some (some (.int (Int32.ofNat (fl_gt g 64 (fl_tv g k j) j)))), fl_wi h 266 (fl_ar j (fl_tv g k j) (fl_i h 266))) := fun l h8 => by
      have wj := w.2.2.1 j l hj
      exact fr_135 gx mx wb w0 (k := j) (by omega) ⟨wj.1, wj.2.1⟩ (by omega) wj.2.2.2.1 64 (fl_tv g k j) (fun i hi => by
        have lt := w.2.2.2.1 j i l hj h8 hi
        exact ⟨by omega, by rw [fl_i_wi, if_pos rfl, fl_ar_lt lt], fl_tv_le w hn k j _ (by omega)⟩)
    have gjl := fl_gl_le w hn j
    have w14 : g 1 ≤ 4 := w1.2.1
    try dsimp only
    by_cases c : j = k
    · rw [if_pos c] at ts
      rw [← ar (1 - fl_gl g k) ts.symm]
      rw [← c] at h2 ⊢
      by_cases l : j < g 1
      · clear w w1 m mx hgd ts up ar e135 st wb e97
        subst c
        generalize fl_ar j (fl_tv g j j) (fl_i h 266) = A at *
        generalize fl_gl g j = gg at *
        rw [fbC_192_13]
        simp (disch := omega) only [fl_k_wl, fl_r_wl, fl_i_wl, fl_l_wl, fl_1_wl, fl_k_wi, fl_r_wi, fl_l_wi, fl_1_wi, fl_i_wi, fl_k_si, fl_r_si, fl_l_si, fl_k_sl, fl_r_sl, fl_i_sl, fl_up_self, fl_up_ne, fl_si_wi, fl_sl_wl, fl_wi_wi, fl_wl_wl, hg.1, hg.2, fl_KM, fl_RM, fl_lit, fl_nadd, fl_nmul, fl_ndiv, fl_nsub, fl_msub, fl_nle, fl_nlt, fl_neq, fl_nclamp, fl_nin, fl_ltT, fl_ltF, fl_leT, fl_leF, fl_eqT, fl_eqF, decide_true, decide_false, Bool.true_and, Bool.and_true, Bool.false_and, Bool.and_false, if_true, if_false, Bool.false_eq_true, Option.isSome_some, Option.getD_some, not_true_eq_false, not_false_eq_true, Option.toList_some, Option.toList_none, List.cons_append, List.nil_append, e95, fbP_192_19, e129, fbP_192_28, fbC_192_40, gj, fbC_192_48, fbC_192_82, fbC_192_90]
      · by_cases r : g (4 + j) = 8
        · rw [if_pos r] at e97
          clear w w1 m mx hgd ts up ar e135 st wb
          subst c
          generalize fl_ar j (fl_tv g j j) (fl_i h 266) = A at *
          generalize fl_gl g j = gg at *
          rw [fbC_192_13]
          simp (disch := omega) only [fl_k_wl, fl_r_wl, fl_i_wl, fl_l_wl, fl_1_wl, fl_k_wi, fl_r_wi, fl_l_wi, fl_1_wi, fl_i_wi, fl_k_si, fl_r_si, fl_l_si, fl_k_sl, fl_r_sl, fl_i_sl, fl_up_self, fl_up_ne, fl_si_wi, fl_sl_wl, fl_wi_wi, fl_wl_wl, hg.1, hg.2, fl_KM, fl_RM, fl_lit, fl_nadd, fl_nmul, fl_ndiv, fl_nsub, fl_msub, fl_nle, fl_nlt, fl_neq, fl_nclamp, fl_nin, fl_ltT, fl_ltF, fl_leT, fl_leF, fl_eqT, fl_eqF, decide_true, decide_false, Bool.true_and, Bool.and_true, Bool.false_and, Bool.and_false, if_true, if_false, Bool.false_eq_true, Option.isSome_some, Option.getD_some, not_true_eq_false, not_false_eq_true, Option.toList_some, Option.toList_none, List.cons_append, List.nil_append, e95, fbP_192_19, e129, fbP_192_28, e97, fbP_192_37, fbC_192_40, gj, fbC_192_48, fbC_192_82, fbC_192_90]
        · rw [if_neg r] at e97
          have e135' := e135 (by omega) r
          clear w w1 m mx hgd ts up ar e135 st wb
          subst c
          generalize fl_gt g 64 (fl_tv g j j) j = gtv at *
          generalize fl_ar j (fl_tv g j j) (fl_i h 266) = A at *
          generalize fl_gl g j = gg at *
          rw [fbC_192_13]
          simp (disch := omega) only [fl_k_wl, fl_r_wl, fl_i_wl, fl_l_wl, fl_1_wl, fl_k_wi, fl_r_wi, fl_l_wi, fl_1_wi, fl_i_wi, fl_k_si, fl_r_si, fl_l_si, fl_k_sl, fl_r_sl, fl_i_sl, fl_up_self, fl_up_ne, fl_si_wi, fl_sl_wl, fl_wi_wi, fl_wl_wl, hg.1, hg.2, fl_KM, fl_RM, fl_lit, fl_nadd, fl_nmul, fl_ndiv, fl_nsub, fl_msub, fl_nle, fl_nlt, fl_neq, fl_nclamp, fl_nin, fl_ltT, fl_ltF, fl_leT, fl_leF, fl_eqT, fl_eqF, decide_true, decide_false, Bool.true_and, Bool.and_true, Bool.false_and, Bool.and_false, if_true, if_false, Bool.false_eq_true, Option.isSome_some, Option.getD_some, not_true_eq_false, not_false_eq_true, Option.toList_some, Option.toList_none, List.cons_append, List.nil_append, e95, fbP_192_19, e129, fbP_192_28, e97, fbP_192_37, e135', fbP_192_59, gj, fbC_192_82, fbC_192_90]
    · rw [if_neg c] at ts
      by_cases l : j < g 1
      · rw [if_pos (Or.inl l)] at ts
        rw [← ar (fl_gl g j) ts.symm]
        clear w w1 m mx hgd ts up ar e135 st wb e97
        generalize fl_ar j (fl_tv g k j) (fl_i h 266) = A at *
        generalize fl_gl g j = gg at *
        rw [fbC_192_13]
        simp (disch := omega) only [fl_k_wl, fl_r_wl, fl_i_wl, fl_l_wl, fl_1_wl, fl_k_wi, fl_r_wi, fl_l_wi, fl_1_wi, fl_i_wi, fl_k_si, fl_r_si, fl_l_si, fl_k_sl, fl_r_sl, fl_i_sl, fl_up_self, fl_up_ne, fl_si_wi, fl_sl_wl, fl_wi_wi, fl_wl_wl, hg.1, hg.2, fl_KM, fl_RM, fl_lit, fl_nadd, fl_nmul, fl_ndiv, fl_nsub, fl_msub, fl_nle, fl_nlt, fl_neq, fl_nclamp, fl_nin, fl_ltT, fl_ltF, fl_leT, fl_leF, fl_eqT, fl_eqF, decide_true, decide_false, Bool.true_and, Bool.and_true, Bool.false_and, Bool.and_false, if_true, if_false, Bool.false_eq_true, Option.isSome_some, Option.getD_some, not_true_eq_false, not_false_eq_true, Option.toList_some, Option.toList_none, List.cons_append, List.nil_append, e95, fbP_192_19, e129, fbP_192_28, fbC_192_40, gj, fbC_192_48, fbC_192_90]
      · by_cases r : g (4 + j) = 8
        · rw [if_pos (Or.inr r)] at ts
          rw [← ar (fl_gl g j) ts.symm]
          rw [if_pos r] at e97
          clear w w1 m mx hgd ts up ar e135 st wb
          generalize fl_ar j (fl_tv g k j) (fl_i h 266) = A at *
          generalize fl_gl g j = gg at *
          rw [fbC_192_13]
          simp (disch := omega) only [fl_k_wl, fl_r_wl, fl_i_wl, fl_l_wl, fl_1_wl, fl_k_wi, fl_r_wi, fl_l_wi, fl_1_wi, fl_i_wi, fl_k_si, fl_r_si, fl_l_si, fl_k_sl, fl_r_sl, fl_i_sl, fl_up_self, fl_up_ne, fl_si_wi, fl_sl_wl, fl_wi_wi, fl_wl_wl, hg.1, hg.2, fl_KM, fl_RM, fl_lit, fl_nadd, fl_nmul, fl_ndiv, fl_nsub, fl_msub, fl_nle, fl_nlt, fl_neq, fl_nclamp, fl_nin, fl_ltT, fl_ltF, fl_leT, fl_leF, fl_eqT, fl_eqF, decide_true, decide_false, Bool.true_and, Bool.and_true, Bool.false_and, Bool.and_false, if_true, if_false, Bool.false_eq_true, Option.isSome_some, Option.getD_some, not_true_eq_false, not_false_eq_true, Option.toList_some, Option.toList_none, List.cons_append, List.nil_append, e95, fbP_192_19, e129, fbP_192_28, e97, fbP_192_37, fbC_192_40, gj, fbC_192_48, fbC_192_90]
        · rw [if_neg (fun z => z.elim l r)] at ts
          rw [← ar _ ts.symm]
          rw [if_neg r] at e97
          have e135' := e135 (by omega) r
          clear w w1 m mx hgd ts up ar e135 st wb
          generalize fl_gt g 64 (fl_tv g k j) j = gtv at *
          generalize fl_ar j (fl_tv g k j) (fl_i h 266) = A at *
          rw [fbC_192_13]
          simp (disch := omega) only [fl_k_wl, fl_r_wl, fl_i_wl, fl_l_wl, fl_1_wl, fl_k_wi, fl_r_wi, fl_l_wi, fl_1_wi, fl_i_wi, fl_k_si, fl_r_si, fl_l_si, fl_k_sl, fl_r_sl, fl_i_sl, fl_up_self, fl_up_ne, fl_si_wi, fl_sl_wl, fl_wi_wi, fl_wl_wl, hg.1, hg.2, fl_KM, fl_RM, fl_lit, fl_nadd, fl_nmul, fl_ndiv, fl_nsub, fl_msub, fl_nle, fl_nlt, fl_neq, fl_nclamp, fl_nin, fl_ltT, fl_ltF, fl_leT, fl_leF, fl_eqT, fl_eqF, decide_true, decide_false, Bool.true_and, Bool.and_true, Bool.false_and, Bool.and_false, if_true, if_false, Bool.false_eq_true, Option.isSome_some, Option.getD_some, not_true_eq_false, not_false_eq_true, Option.toList_some, Option.toList_none, List.cons_append, List.nil_append, e95, fbP_192_19, e129, fbP_192_28, e97, fbP_192_37, e135', fbP_192_59, fbC_192_90])
  rw [st, lp]
  try dsimp only
  have gx : fl_g k0 (fl_wi h 266 (fl_ar (g 0) (fl_tv g k (g 0)) (fl_i h 266))) := ⟨by rw [fl_k_wi]; exact hg.1, by rw [fl_r_wi]; exact hg.2⟩
  have mx : fl_mm (fl_wi h 266 (fl_ar (g 0) (fl_tv g k (g 0)) (fl_i h 266))) g := fun i hi => by rw [fl_i_wi, if_neg (by omega)]; exact m i hi
  have e95 := fr_95 gx mx
  have vo : fl_i (fl_wi h 266 (fl_ar (g 0) (fl_tv g k (g 0)) (fl_i h 266))) 266 o = Int32.ofNat (fl_tv g k (g 0) o) := by rw [fl_i_wi, if_pos rfl, fl_ar_lt ho]
  clear w w1 m mx hgd lp st
  generalize fl_wi h 266 (fl_ar (g 0) (fl_tv g k (g 0)) (fl_i h 266)) = X at *
  rw [fbC_192_13]
  simp (disch := omega) only [gx.1, gx.2, fl_KM, fl_RM, fl_lit, fl_nadd, fl_nmul, fl_ndiv, fl_nsub, fl_msub, fl_nle, fl_nlt, fl_neq, fl_nclamp, fl_nin, fl_ltT, fl_ltF, fl_leT, fl_leF, fl_eqT, fl_eqF, decide_true, decide_false, Bool.true_and, Bool.and_true, Bool.false_and, Bool.and_false, if_true, if_false, Bool.false_eq_true, Option.isSome_some, Option.getD_some, not_true_eq_false, not_false_eq_true, Option.toList_some, Option.toList_none, List.cons_append, List.nil_append, e95, fbP_192_19, vo]
theorem fo_critical_b0 (hg : fl_g k0 h) (m : fl_mm h g) (w : fl_wf g) {p : Int32} (np : ∀ j, j < g 3 → ¬ Int32.ofNat (g (72 + j)) = p) : fl_cl fl_C 193 [.ref 259, .int p] h = some (some (some (.int (-Int32.ofNat 1))), fl_wi h 259 (fl_up (fl_i h 259) 0 (Int32.ofNat 0))) := by
  have w0 : g 0 ≤ 12 := w.1.2.2.2.1
  have w3 : g 3 ≤ 4 := w.1.2.2.2.2.2.2.1
  have G : fl_g k0 (fl_wi h 259 (fl_up (fl_i h 259) 0 (Int32.ofNat 0))) := ⟨by rw [fl_k_wi]; exact hg.1, by rw [fl_r_wi]; exact hg.2⟩
  have mx : fl_mm (fl_wi h 259 (fl_up (fl_i h 259) 0 (Int32.ofNat 0))) g := fun i hi => by rw [fl_i_wi, if_neg (by omega)]; exact m i hi
  have e96 := fr_96 G mx w0 p
  by_cases c : fl_in p (g 0) = true
  · rw [if_pos c] at e96
    obtain ⟨k, hk, rfl⟩ := fl_in_ex c
    have e98 := fr_98 G mx w.2.2.2.2.2.2.2.2.1 w3 (k := k) (by omega)
    rw [if_neg (fun z => by
      obtain ⟨j, hj, e⟩ := fl_any_iff.mp z
      exact np j hj (by rw [of_decide_eq_true e]))] at e98
    clear m mx w np
    rw [fbE_193]
    simp (disch := omega) only [fl_si_wi, hg.1, G.1, fl_KM, fl_RM, fl_lit, fl_nadd, fl_nmul, fl_ndiv, fl_nsub, fl_msub, fl_nle, fl_nlt, fl_neq, fl_nclamp, fl_nin, fl_ltT, fl_ltF, fl_leT, fl_leF, fl_eqT, fl_eqF, decide_true, decide_false, Bool.true_and, Bool.and_true, Bool.false_and, Bool.and_false, if_true, if_false, Bool.false_eq_true, Option.isSome_some, Option.getD_some, not_true_eq_false, not_false_eq_true, Option.toList_some, Option.toList_none, List.cons_append, List.nil_append, fbC_193_5, e96, fbP_193_10, e98, fbP_193_18, fbC_193_21]
  · rw [if_neg c] at e96
    clear m mx w np
    rw [fbE_193]
    simp (disch := omega) only [fl_si_wi, hg.1, G.1, fl_KM, fl_RM, fl_lit, fl_nadd, fl_nmul, fl_ndiv, fl_nsub, fl_msub, fl_nle, fl_nlt, fl_neq, fl_nclamp, fl_nin, fl_ltT, fl_ltF, fl_leT, fl_leF, fl_eqT, fl_eqF, decide_true, decide_false, Bool.true_and, Bool.and_true, Bool.false_and, Bool.and_false, if_true, if_false, Bool.false_eq_true, Option.isSome_some, Option.getD_some, not_true_eq_false, not_false_eq_true, Option.toList_some, Option.toList_none, List.cons_append, List.nil_append, fbC_193_5, e96, fbP_193_10, fbC_193_21]
theorem fo_critical_b1 (hg : fl_g k0 h) (m : fl_mm h g) (w : fl_wf g) {j : Nat} (hj : j < g 3) (hn : g 76 = 0) : fl_cl fl_C 193 [.ref 259, .int (Int32.ofNat (g (72 + j)))] h = some (some (some (.int (-Int32.ofNat 2))), fl_wi h 259 (fl_up (fl_i h 259) 0 (Int32.ofNat 0))) := by
  have w0 : g 0 ≤ 12 := w.1.2.2.2.1
  have w3 : g 3 ≤ 4 := w.1.2.2.2.2.2.2.1
  have lk : g (72 + j) < g 0 := w.2.2.2.2.2.1 j hj
  have G : fl_g k0 (fl_wi h 259 (fl_up (fl_i h 259) 0 (Int32.ofNat 0))) := ⟨by rw [fl_k_wi]; exact hg.1, by rw [fl_r_wi]; exact hg.2⟩
  have mx : fl_mm (fl_wi h 259 (fl_up (fl_i h 259) 0 (Int32.ofNat 0))) g := fun i hi => by rw [fl_i_wi, if_neg (by omega)]; exact m i hi
  have e96 := fr_96 G mx w0 (Int32.ofNat (g (72 + j)))
  rw [if_pos (by rw [fl_nin (by omega)]; exact decide_eq_true lk)] at e96
  have e98 := fr_98 G mx w.2.2.2.2.2.2.2.2.1 w3 (k := g (72 + j)) (by omega)
  rw [if_pos (fl_any_iff.mpr ⟨j, hj, decide_eq_true rfl⟩)] at e98
  have e130 := fr_130h G
  rw [mx 76 (by omega), hn] at e130
  clear m mx w
  rw [fbE_193]
  simp (disch := omega) only [fl_si_wi, hg.1, G.1, fl_KM, fl_RM, fl_lit, fl_nadd, fl_nmul, fl_ndiv, fl_nsub, fl_msub, fl_nle, fl_nlt, fl_neq, fl_nclamp, fl_nin, fl_ltT, fl_ltF, fl_leT, fl_leF, fl_eqT, fl_eqF, decide_true, decide_false, Bool.true_and, Bool.and_true, Bool.false_and, Bool.and_false, if_true, if_false, Bool.false_eq_true, Option.isSome_some, Option.getD_some, not_true_eq_false, not_false_eq_true, Option.toList_some, Option.toList_none, List.cons_append, List.nil_append, fbC_193_5, e96, fbP_193_10, e98, fbP_193_18, e130, fbP_193_27]
theorem fl_crs_31 {o : Nat} (w : fl_wf g) : fl_hi (fl_crs g o) 31 = false := by
  have w0 : g 0 ≤ 12 := w.1.2.2.2.1
  unfold fl_crs
  rw [fl_hi_bi (by omega) (fun i hi => by omega)]
  exact fl_any_ff (fun i hi => by rw [decide_eq_false (show ¬ 31 = i by omega), Bool.and_false])
theorem fo_critical_b (hg : fl_g k0 h) (m : fl_mm h g) (w : fl_wf g) {o : Nat} (ho : ∃ j, j < g 3 ∧ g (72 + j) = o) (hn : 0 < g 76) : ∃ y, fl_df fl_scr h y ∧ fl_cl fl_C 193 [.ref 259, .int (Int32.ofNat o)] h = some (some (some (.int (fl_crs g o))), fl_ra1 y (Int32.toInt64 (Int32.ofNat (fl_cnt (fl_hb (Int32.toInt64 (fl_crs g o))) 64)))) := by
  have w0 : g 0 ≤ 12 := w.1.2.2.2.1
  have w3 : g 3 ≤ 4 := w.1.2.2.2.2.2.2.1
  have w7 : g 76 ≤ 24 := w.1.2.2.2.2.2.2.2.1
  have lo : o < g 0 := by
    obtain ⟨j, hj, rfl⟩ := ho
    exact w.2.2.2.2.2.1 j hj
  have d0 : fl_df fl_scr h (fl_wi h 259 (fl_up (fl_i h 259) 0 (Int32.ofNat 0))) := fl_up0_df (by omega)
  have ew : fl_si h 259 0 (Int32.ofNat 0) = fl_wi h 259 (fl_up (fl_i h 259) 0 (Int32.ofNat 0)) := fl_si_wi
  have st0 : fl_cl fl_C 193 [.ref 259, .int (Int32.ofNat o)] h = fl_Rn fl_C 193 5 [some (.ref 259), some (.int (Int32.ofNat o))] [] (fl_wi h 259 (fl_up (fl_i h 259) 0 (Int32.ofNat 0))) := by
    clear m w d0 ho
    rw [fbE_193]
    simp (disch := omega) only [hg.1, fl_KM, fl_RM, fl_lit, fl_nadd, fl_nmul, fl_ndiv, fl_nsub, fl_msub, fl_nle, fl_nlt, fl_neq, fl_nclamp, fl_nin, fl_ltT, fl_ltF, fl_leT, fl_leF, fl_eqT, fl_eqF, decide_true, decide_false, Bool.true_and, Bool.and_true, Bool.false_and, Bool.and_false, if_true, if_false, Bool.false_eq_true, Option.isSome_some, Option.getD_some, not_true_eq_false, not_false_eq_true, Option.toList_some, Option.toList_none, List.cons_append, List.nil_append, ew]
  rw [st0]
  clear st0 ew
  generalize fl_wi h 259 (fl_up (fl_i h 259) 0 (Int32.ofNat 0)) = H at *
  have gH := fl_df_g hg d0
  have mH : fl_mm H g := fun j hj => by rw [(d0.2.2.2 262 j (by omega)).1]; exact m j hj
  have e96 := fr_96 gH mH w0 (Int32.ofNat o)
  rw [if_pos (by rw [fl_nin (by omega)]; exact decide_eq_true lo)] at e96
  have e98 := fr_98 gH mH w.2.2.2.2.2.2.2.2.1 w3 (k := o) (by omega)
  rw [if_pos (by obtain ⟨j, hj, e⟩ := ho; exact fl_any_iff.mpr ⟨j, hj, decide_eq_true e⟩)] at e98
  have e130 := fr_130h gH
  rw [mH 76 (by omega)] at e130
  have e131 := fr_131 gH mH w
  have d1 : fl_df fl_scr h (fl_wi (fl_wi H 259 (fl_up (fl_i H 259) 16 (Int32.ofNat (g 76)))) 268 (fl_ar (g 76) (fun t => g (78 + t)) (fl_i H 268))) := fl_df_wi (fl_df_wiu d0 (by omega)) (fun j z => absurd (Or.inl (by omega)) z)
  have ls : fl_ls (fl_wi (fl_wi H 259 (fl_up (fl_i H 259) 16 (Int32.ofNat (g 76)))) 268 (fl_ar (g 76) (fun t => g (78 + t)) (fl_i H 268))) (g 76) (fl_ps g) := ⟨w7, by rw [fl_i_wi, if_neg (by omega), fl_i_wi, if_pos rfl, fl_up_self], fun t ht => by rw [fl_i_wi, if_pos rfl, fl_ar_lt ht]; rfl⟩
  generalize fl_wi (fl_wi H 259 (fl_up (fl_i H 259) 16 (Int32.ofNat (g 76)))) 268 (fl_ar (g 76) (fun t => g (78 + t)) (fl_i H 268)) = L at *
  have gL := fl_df_g hg d1
  have mL : fl_mm L g := fun j hj => by rw [(d1.2.2.2 262 j (by omega)).1]; exact m j hj
  obtain ⟨v, X, e138, rfl, fX, gd⟩ := fr_138 gL mL w ls (fl_okp_g w)
  have gX := fl_g_fx gL fX
  have dX : fl_df fl_scr h X := fl_df_tr d1 (fl_df_fx fX (fun q j z => Or.inl (by omega)))
  have X16 : fl_i X 259 16 = Int32.ofNat (g 76) := by rw [fX.2.2.2.2 259 (by omega)]; exact ls.2.1
  have Xgd : ∀ k, k < g 0 → fl_i X 269 (12 * (g 76 - 1) + k) = Int32.ofNat (fl_gl g k) := fun k hk => gd.1 (g 76 - 1) (by omega) k hk
  have go := fl_gl_le w hn o
  have st : fl_Rn fl_C 193 5 [some (.ref 259), some (.int (Int32.ofNat o))] [] H = fl_Rn fl_C 193 63 [some (.ref 259), some (.int (Int32.ofNat o)), some (.int (Int32.ofNat (fl_gl g o))), some (.int (Int32.ofNat 0)), some (.int (Int32.ofNat 0))] [] X := by
    have xo := Xgd o lo
    clear m mH mL w ho d0 d1 dX fX gd ls Xgd
    rw [fbC_193_5]
    simp (disch := omega) only [gH.1, gL.1, gX.1, gX.2, fl_KM, fl_RM, fl_lit, fl_nadd, fl_nmul, fl_ndiv, fl_nsub, fl_msub, fl_nle, fl_nlt, fl_neq, fl_nclamp, fl_nin, fl_ltT, fl_ltF, fl_leT, fl_leF, fl_eqT, fl_eqF, decide_true, decide_false, Bool.true_and, Bool.and_true, Bool.false_and, Bool.and_false, if_true, if_false, Bool.false_eq_true, Option.isSome_some, Option.getD_some, not_true_eq_false, not_false_eq_true, Option.toList_some, Option.toList_none, List.cons_append, List.nil_append, e96, fbP_193_10, e98, fbP_193_18, e130, fbP_193_27, e131, fbP_193_37, e138, fbP_193_41, X16, fbC_193_56, xo]
  rw [st]
  clear st e96 e98 e130 e131 e138 gd ls
  suffices fl_to (fl_Rn fl_C 193 63 [some (.ref 259), some (.int (Int32.ofNat o)), some (.int (Int32.ofNat (fl_gl g o))), some (.int (Int32.ofNat 0)), some (.int (Int32.ofNat 0))] [] X) (fun v z => v = some (.int (fl_crs g o)) ∧ ∃ y, fl_df fl_scr h y ∧ z = fl_ra1 y (Int32.toInt64 (Int32.ofNat (fl_cnt (fl_hb (Int32.toInt64 (fl_crs g o))) 64)))) by
    obtain ⟨v, z, e, rfl, y, dy, rfl⟩ := this
    exact ⟨y, dy, e⟩
  refine fl_loopT (F := fun k x => fl_Rn fl_C 193 63 [some (.ref 259), some (.int (Int32.ofNat o)), some (.int (Int32.ofNat (fl_gl g o))), some (.int (fl_bi (fl_crq g o) (fun i => i) k)), some (.int (Int32.ofNat k))] [] x) (fun k x => fl_fx (fun b => b = 266) X x) (g 0) ?_ ?_ 0 X (Nat.zero_le _) fl_fx_rfl
  · intro x fx
    have gx := fl_g_fx gX fx
    have dx : fl_df fl_scr h x := fl_df_tr dX (fl_df_fx fx (fun q j z => Or.inl (by omega)))
    have e95 := fr_95 gx (fun j hj => by rw [(dx.2.2.2 262 j (by omega)).1]; exact m j hj : fl_mm x g)
    have ga := fl_a0_g gx
    have bt := fr_144 (h := fl_a0 x) (Int32.toInt64 (fl_crs g o))
    have t1 := fr_ra1 gx (Int32.toInt64 (Int32.ofNat (fl_cnt (fl_hb (Int32.toInt64 (fl_crs g o))) 64)))
    have fin : fl_Rn fl_C 193 63 [some (.ref 259), some (.int (Int32.ofNat o)), some (.int (Int32.ofNat (fl_gl g o))), some (.int (fl_crs g o)), some (.int (Int32.ofNat (g 0)))] [] x = some (some (some (.int (fl_crs g o))), fl_ra1 x (Int32.toInt64 (Int32.ofNat (fl_cnt (fl_hb (Int32.toInt64 (fl_crs g o))) 64)))) := by
      clear m mH mL w ho d0 d1 dX fX Xgd fx dx
      generalize fl_ra1 x (Int32.toInt64 (Int32.ofNat (fl_cnt (fl_hb (Int32.toInt64 (fl_crs g o))) 64))) = Y at *
      generalize fl_cnt (fl_hb (Int32.toInt64 (fl_crs g o))) 64 = CC at *
      generalize fl_crs g o = CS at *
      rw [fbC_193_63]
      simp (disch := omega) only [fl_si_wi, fl_a0_w, gx.1, ga.1, fl_KM, fl_RM, fl_lit, fl_nadd, fl_nmul, fl_ndiv, fl_nsub, fl_msub, fl_nle, fl_nlt, fl_neq, fl_nclamp, fl_nin, fl_ltT, fl_ltF, fl_leT, fl_leF, fl_eqT, fl_eqF, decide_true, decide_false, Bool.true_and, Bool.and_true, Bool.false_and, Bool.and_false, if_true, if_false, Bool.false_eq_true, Option.isSome_some, Option.getD_some, not_true_eq_false, not_false_eq_true, Option.toList_some, Option.toList_none, List.cons_append, List.nil_append, e95, fbP_193_69, fbC_193_145, bt, fbP_193_151, t1, fbP_193_155]
    exact ⟨_, _, fin, rfl, x, dx, rfl⟩
  · intro k x hk fx hy
    have gx := fl_g_fx gX fx
    have dx : fl_df fl_scr h x := fl_df_tr dX (fl_df_fx fx (fun q j z => Or.inl (by omega)))
    have mx : fl_mm x g := fun j hj => by rw [(dx.2.2.2 262 j (by omega)).1]; exact m j hj
    have e95 := fr_95 gx mx
    have x16 : fl_i x 259 16 = Int32.ofNat (g 76) := by rw [fx.2.2.2.2 259 (by omega)]; exact X16
    have xgd : ∀ k, k < g 0 → fl_i x 269 (12 * (g 76 - 1) + k) = Int32.ofNat (fl_gl g k) := fun k hk => by rw [fx.2.2.2.2 269 (by omega)]; exact Xgd k hk
    have xk := xgd k hk
    have gk := fl_gl_le w hn k
    have bb : fl_bi (fl_crq g o) (fun i => i) (k + 1) = fl_bi (fl_crq g o) (fun i => i) k ||| (if fl_crq g o k = true then Int32.ofNat 1 <<< (Int32.ofNat k &&& Int32.ofNat 31) else Int32.ofNat 0) := rfl
    rw [bb] at hy
    clear bb
    by_cases c1 : fl_gl g o = 2
    · have q0 : fl_crq g o k = false := by unfold fl_crq; rw [decide_eq_false (show ¬ fl_gl g o ≠ 2 from fun z => z c1), Bool.false_and]
      rw [q0, if_neg (by decide)] at hy
      have fin : fl_Rn fl_C 193 63 [some (.ref 259), some (.int (Int32.ofNat o)), some (.int (Int32.ofNat (fl_gl g o))), some (.int (fl_bi (fl_crq g o) (fun i => i) k)), some (.int (Int32.ofNat k))] [] x = fl_Rn fl_C 193 63 [some (.ref 259), some (.int (Int32.ofNat o)), some (.int (Int32.ofNat (fl_gl g o))), some (.int (fl_bi (fl_crq g o) (fun i => i) k ||| Int32.ofNat 0)), some (.int (Int32.ofNat (k + 1)))] [] x := by
        rw [c1]
        clear m mH mL mx w ho d0 d1 dX fX Xgd xgd fx dx hy q0
        generalize fl_bi (fl_crq g o) (fun i => i) k = BB at *
        rw [fbC_193_63]
        simp (disch := omega) only [gx.1, gx.2, fl_KM, fl_RM, fl_lit, fl_nadd, fl_nmul, fl_ndiv, fl_nsub, fl_msub, fl_nle, fl_nlt, fl_neq, fl_nclamp, fl_nin, fl_ltT, fl_ltF, fl_leT, fl_leF, fl_eqT, fl_eqF, decide_true, decide_false, Bool.true_and, Bool.and_true, Bool.false_and, Bool.and_false, if_true, if_false, Bool.false_eq_true, Option.isSome_some, Option.getD_some, not_true_eq_false, not_false_eq_true, Option.toList_some, Option.toList_none, List.cons_append, List.nil_append, e95, fbP_193_69, fbC_193_102]
      rw [fin]
      exact hy x fx
    · by_cases c2 : fl_gl g k = 2
      · have q0 : fl_crq g o k = false := by unfold fl_crq; rw [decide_eq_false (show ¬ fl_gl g k ≠ 2 from fun z => z c2), Bool.false_and, Bool.and_false]
        rw [q0, if_neg (by decide)] at hy
        have fin : fl_Rn fl_C 193 63 [some (.ref 259), some (.int (Int32.ofNat o)), some (.int (Int32.ofNat (fl_gl g o))), some (.int (fl_bi (fl_crq g o) (fun i => i) k)), some (.int (Int32.ofNat k))] [] x = fl_Rn fl_C 193 63 [some (.ref 259), some (.int (Int32.ofNat o)), some (.int (Int32.ofNat (fl_gl g o))), some (.int (fl_bi (fl_crq g o) (fun i => i) k ||| Int32.ofNat 0)), some (.int (Int32.ofNat (k + 1)))] [] x := by
          rw [c2] at xk
          clear m mH mL mx w ho d0 d1 dX fX Xgd xgd fx dx hy q0
          generalize fl_bi (fl_crq g o) (fun i => i) k = BB at *
          generalize fl_gl g o = go' at *
          rw [fbC_193_63]
          simp (disch := omega) only [gx.1, gx.2, fl_KM, fl_RM, fl_lit, fl_nadd, fl_nmul, fl_ndiv, fl_nsub, fl_msub, fl_nle, fl_nlt, fl_neq, fl_nclamp, fl_nin, fl_ltT, fl_ltF, fl_leT, fl_leF, fl_eqT, fl_eqF, decide_true, decide_false, Bool.true_and, Bool.and_true, Bool.false_and, Bool.and_false, if_true, if_false, Bool.false_eq_true, Option.isSome_some, Option.getD_some, not_true_eq_false, not_false_eq_true, Option.toList_some, Option.toList_none, List.cons_append, List.nil_append, e95, fbP_193_69, x16, fbC_193_93, xk, fbC_193_102]
        rw [fin]
        exact hy x fx
      · have e192 := fr_192 gx mx w hn x16 xgd (k := k) (o := o) hk lo (by omega)
        have tvl := fl_tv_le w hn k (g 0) o (Nat.le_refl _)
        have fy : fl_fx (fun b => b = 266) X (fl_wi x 266 (fl_ar (g 0) (fl_tv g k (g 0)) (fl_i x 266))) := fl_fx_wi fx rfl
        have q1 : fl_crq g o k = decide (fl_tv g k (g 0) o = 1 - fl_gl g o) := by unfold fl_crq; rw [decide_eq_true (show fl_gl g o ≠ 2 from c1), decide_eq_true (show fl_gl g k ≠ 2 from c2), Bool.true_and, Bool.true_and]
        rw [q1] at hy
        generalize fl_wi x 266 (fl_ar (g 0) (fl_tv g k (g 0)) (fl_i x 266)) = Y at *
        by_cases c3 : fl_tv g k (g 0) o = 1 - fl_gl g o
        · rw [decide_eq_true c3, if_pos rfl] at hy
          have fin : fl_Rn fl_C 193 63 [some (.ref 259), some (.int (Int32.ofNat o)), some (.int (Int32.ofNat (fl_gl g o))), some (.int (fl_bi (fl_crq g o) (fun i => i) k)), some (.int (Int32.ofNat k))] [] x = fl_Rn fl_C 193 63 [some (.ref 259), some (.int (Int32.ofNat o)), some (.int (Int32.ofNat (fl_gl g o))), some (.int (fl_bi (fl_crq g o) (fun i => i) k ||| (Int32.ofNat 1 <<< (Int32.ofNat k &&& Int32.ofNat 31)))), some (.int (Int32.ofNat (k + 1)))] [] Y := by
            rw [c3] at e192
            clear m mH mL mx w ho d0 d1 dX fX Xgd xgd fx dx hy q1 fy
            generalize fl_bi (fl_crq g o) (fun i => i) k = BB at *
            generalize fl_gl g o = go' at *
            generalize fl_gl g k = gk' at *
            rw [fbC_193_63]
            simp (disch := omega) only [gx.1, gx.2, fl_KM, fl_RM, fl_lit, fl_nadd, fl_nmul, fl_ndiv, fl_nsub, fl_msub, fl_nle, fl_nlt, fl_neq, fl_nclamp, fl_nin, fl_ltT, fl_ltF, fl_leT, fl_leF, fl_eqT, fl_eqF, decide_true, decide_false, Bool.true_and, Bool.and_true, Bool.false_and, Bool.and_false, if_true, if_false, Bool.false_eq_true, Option.isSome_some, Option.getD_some, not_true_eq_false, not_false_eq_true, Option.toList_some, Option.toList_none, List.cons_append, List.nil_append, e95, fbP_193_69, x16, fbC_193_93, xk, e192, fbP_193_118]
          rw [fin]
          exact hy Y fy
        · rw [decide_eq_false c3, if_neg (by decide)] at hy
          have fin : fl_Rn fl_C 193 63 [some (.ref 259), some (.int (Int32.ofNat o)), some (.int (Int32.ofNat (fl_gl g o))), some (.int (fl_bi (fl_crq g o) (fun i => i) k)), some (.int (Int32.ofNat k))] [] x = fl_Rn fl_C 193 63 [some (.ref 259), some (.int (Int32.ofNat o)), some (.int (Int32.ofNat (fl_gl g o))), some (.int (fl_bi (fl_crq g o) (fun i => i) k ||| Int32.ofNat 0)), some (.int (Int32.ofNat (k + 1)))] [] Y := by
            clear m mH mL mx w ho d0 d1 dX fX Xgd xgd fx dx hy q1 fy
            generalize fl_bi (fl_crq g o) (fun i => i) k = BB at *
            generalize fl_tv g k (g 0) o = tvo at *
            generalize fl_gl g o = go' at *
            generalize fl_gl g k = gk' at *
            rw [fbC_193_63]
            simp (disch := omega) only [gx.1, gx.2, fl_KM, fl_RM, fl_lit, fl_nadd, fl_nmul, fl_ndiv, fl_nsub, fl_msub, fl_nle, fl_nlt, fl_neq, fl_nclamp, fl_nin, fl_ltT, fl_ltF, fl_leT, fl_leF, fl_eqT, fl_eqF, decide_true, decide_false, Bool.true_and, Bool.and_true, Bool.false_and, Bool.and_false, if_true, if_false, Bool.false_eq_true, Option.isSome_some, Option.getD_some, not_true_eq_false, not_false_eq_true, Option.toList_some, Option.toList_none, List.cons_append, List.nil_append, e95, fbP_193_69, x16, fbC_193_93, xk, e192, fbP_193_118]
          rw [fin]
          exact hy Y fy
theorem fo_critical (I : fl_Inv k0 c h) (p : Int32) : fl_both k0 c 191 193 [.int p] [.int p] h := by
  obtain ⟨rn, rv, iO⟩ := I.2.2.2.1
  obtain ⟨g, g1, g2, b1, b2, r, s1, s2, iG⟩ := I.2.2.2.2.2
  have w := iG.1
  by_cases np : ∀ j, j < g 3 → ¬ Int32.ofNat (g (72 + j)) = p
  · exact ⟨_, _, _, fo_critical_a0 I.1 w iG.2.2.2.1 np, fo_critical_b0 I.1 iG.2.1 w np, fl_Inv_qt I fl_qt_0⟩
  · have ex : ∃ j, j < g 3 ∧ Int32.ofNat (g (72 + j)) = p := by
      apply Classical.byContradiction
      intro z
      exact np (fun j hj e => z ⟨j, hj, e⟩)
    obtain ⟨j, hj, rfl⟩ := ex
    by_cases hn : g 76 = 0
    · exact ⟨_, _, _, fo_critical_a1 I.1 w iG.2.2.2.1 hj hn, fo_critical_b1 I.1 iG.2.1 w hj hn, fl_Inv_qt I fl_qt_0⟩
    · obtain ⟨y, dy, a⟩ := fo_critical_a I.1 w iG.2.2.2.1 iO.2.2.1 (o := g (72 + j)) ⟨j, hj, rfl⟩ (by omega)
      rw [← fl_cnt_i64 (fl_crs_31 w)] at a
      have d1 : fl_df (fun q j => (144 ≤ q ∧ q ≤ 258) ∨ fl_Sc6 q j) h (fl_ca1 y (Int32.toInt64 (Int32.ofNat (fl_cnt (fl_hb (Int32.toInt64 (fl_crs g (g (72 + j))))) 64)))) := fl_df_tr (fl_df_mo dy (fun q j z => Or.inl (by omega))) (fl_df_mo fl_ca1_df (fun q j z => Or.inr z))
      obtain ⟨z, dz, b⟩ := fo_critical_b (fl_df_g I.1 d1) (fun j hj => by rw [(d1.2.2.2 262 j (by omega)).1]; exact iG.2.1 j hj) w (o := g (72 + j)) ⟨j, hj, rfl⟩ (by omega)
      exact fo_tell1 I a (fl_df_mo dy (fun q j z => by omega)) b dz
end
