/-! THE REFERENCE: all runs -/
theorem fl_okp_g {g : Nat → Nat} (w : fl_wf g) : fl_okp g (fun t => g (78 + t)) (g 76) := fun t ht => ⟨(w.2.2.2.2.2.2.2.1 t ht).1, (w.2.2.2.2.2.2.2.1 t ht).2.2⟩
theorem fl_rf_oth {x y : fl_H} {g : Nat → Nat} {n : Nat} {ps : Nat → Nat} {f f' : Nat} (w : g 0 ≤ 12) (a : fl_rf x g n ps f') (o : fl_oth x y f) (hf : f' ≠ f) : fl_rf y g n ps f' := by
  have := o f' hf
  refine ⟨?_, ?_, ?_, ?_, ?_⟩
  · rw [this.1]; exact a.1
  · rw [this.2.1]; exact a.2.1
  · rw [this.2.2.1]; exact a.2.2.1
  · intro h0 k hk; rw [this.2.2.2.1 k (by omega)]; exact a.2.2.2.1 h0 k hk
  · intro k hk; rw [this.2.2.2.2 k (by omega)]; exact a.2.2.2.2 k hk
abbrev fl_SA (b : Nat) : Prop := b = 259 ∨ (266 ≤ b ∧ b ≤ 275)
abbrev fl_all2 (h y : fl_H) (g : Nat → Nat) : Prop := fl_fx fl_SA h y ∧ (∀ j, j ≠ 16 → fl_i y 259 j = fl_i h 259 j) ∧ fl_ls y (g 76) (fun t => g (78 + t)) ∧ fl_gd y g (g 76) (fun t => g (78 + t)) ∧ ∀ f, f < 2 * (g 0 + g 2) → fl_rf y g (g 76) (fun t => g (78 + t)) f
theorem fr_141 {k0 : Nat → Nat × Nat} {h : fl_H} {g : Nat → Nat} (hg : fl_g k0 h) (m : fl_mm h g) (w : fl_wf g) : fl_to (fl_cl fl_C 141 [.ref 259] h) (fun r y => r = none ∧ fl_all2 h y g) := by
  have w1 : g 0 ≤ 12 := w.1.2.2.2.1
  have w2 : g 2 ≤ 20 := w.1.2.2.2.2.1
  have w7 : g 76 ≤ 24 := w.1.2.2.2.2.2.2.2.1
  have hp := fl_okp_g w
  have f1 : fl_fx fl_SA h (fl_wi (fl_wi h 259 (fl_up (fl_i h 259) 16 (Int32.ofNat (g 76)))) 268 (fl_ar (g 76) (fun t => g (78 + t)) (fl_i h 268))) := fl_fx_wi (fl_fx_wi fl_fx_rfl (by omega)) (by omega)
  have l1 : fl_ls (fl_wi (fl_wi h 259 (fl_up (fl_i h 259) 16 (Int32.ofNat (g 76)))) 268 (fl_ar (g 76) (fun t => g (78 + t)) (fl_i h 268))) (g 76) (fun t => g (78 + t)) := ⟨w7, by rw [fl_i_wi, if_neg (by omega), fl_i_wi, if_pos rfl, fl_up_self], fun t ht => by rw [fl_i_wi, if_pos rfl, fl_ar_lt ht]⟩
  have o1 : ∀ j, j ≠ 16 → fl_i (fl_wi (fl_wi h 259 (fl_up (fl_i h 259) 16 (Int32.ofNat (g 76)))) 268 (fl_ar (g 76) (fun t => g (78 + t)) (fl_i h 268))) 259 j = fl_i h 259 j := fun j hj => by rw [fl_i_wi, if_neg (by omega), fl_i_wi, if_pos rfl, fl_up_ne hj]
  obtain ⟨r, h2, e138, rfl, f2, gd2⟩ := fr_138 (fl_g_fx hg f1) (fl_mm_fx m f1 (by omega)) w l1 hp
  have es : fl_cl fl_C 141 [.ref 259] h = fl_Rn fl_C 141 10 [some (.ref 259), some (.int (Int32.ofNat 0))] [] h2 := by
    have e131 := fr_131 hg m w
    have hg2 := fl_g_fx (fl_g_fx hg f1) f2
    have k1 := (fl_g_fx hg f1).1
    clear w m l1 hp gd2
    rw [fbE_141, e131]
    simp (disch := omega) only [hg.1, hg.2, fl_KM, fl_RM, fl_lit, fl_nadd, fl_nmul, fl_ndiv, fl_nsub, fl_msub, fl_nle, fl_nlt, fl_neq, fl_nclamp, fl_nin, fl_ltT, fl_ltF, fl_leT, fl_leF, fl_eqT, fl_eqF, decide_true, decide_false, Bool.true_and, Bool.and_true, Bool.false_and, Bool.and_false, if_true, if_false, Bool.false_eq_true, Option.isSome_some, Option.getD_some, not_true_eq_false, not_false_eq_true, Option.toList_some, Option.toList_none, List.cons_append, List.nil_append, fbP_141_4, k1, e138, fbP_141_8]
  rw [es]
  have f12 : fl_fx fl_SA h h2 := fl_fx_tr f1 (fl_fx_mo f2 (by omega))
  have l2 := fl_ls_fx l1 f2 (by omega) (by omega)
  refine fl_loopT (F := fun f x => fl_Rn fl_C 141 10 [some (.ref 259), some (.int (Int32.ofNat f))] [] x) (fun f x => fl_fx fl_SS h2 x ∧ ∀ f', f' < f → fl_rf x g (g 76) (fun t => g (78 + t)) f') (2 * (g 0 + g 2)) ?_ ?_ 0 h2 (Nat.zero_le _) ⟨fl_fx_rfl, fun f' hf' => by omega⟩
  · rintro x ⟨fx, rx⟩
    have fhx := fl_fx_tr f12 (fl_fx_mo fx (by omega))
    have hgx := fl_g_fx hg fhx
    have e88 := fr_88 hgx (fl_mm_fx m fhx (by omega))
    have fin : fl_Rn fl_C 141 10 [some (.ref 259), some (.int (Int32.ofNat (2 * (g 0 + g 2))))] [] x = some (some none, x) := by
      clear w m l1 hp gd2 rx l2 o1
      rw [fbC_141_10, e88, fbP_141_15]
      simp (disch := omega) only [hgx.1, hgx.2, fl_KM, fl_RM, fl_lit, fl_nadd, fl_nmul, fl_ndiv, fl_nsub, fl_msub, fl_nle, fl_nlt, fl_neq, fl_nclamp, fl_nin, fl_ltT, fl_ltF, fl_leT, fl_leF, fl_eqT, fl_eqF, decide_true, decide_false, Bool.true_and, Bool.and_true, Bool.false_and, Bool.and_false, if_true, if_false, Bool.false_eq_true, Option.isSome_some, Option.getD_some, not_true_eq_false, not_false_eq_true, Option.toList_some, Option.toList_none, List.cons_append, List.nil_append]
    show fl_to (fl_Rn fl_C 141 10 [some (.ref 259), some (.int (Int32.ofNat (2 * (g 0 + g 2))))] [] x) _
    rw [fin]
    exact fl_to_mk ⟨rfl, fhx, fun j hj => by rw [fx.2.2.2.2 259 (by omega), f2.2.2.2.2 259 (by omega)]; exact o1 j hj, fl_ls_fx l2 fx (by omega) (by omega), fl_gd_fx gd2 fx (by omega) (by omega), rx⟩
  · rintro f x hf ⟨fx, rx⟩ hy
    have fhx := fl_fx_tr f12 (fl_fx_mo fx (by omega))
    have hgx := fl_g_fx hg fhx
    have mx := fl_mm_fx m fhx (by omega)
    have e88 := fr_88 hgx mx
    obtain ⟨r, y, e140, rfl, fy, ry, oy⟩ := fr_140 hgx mx w (fl_ls_fx l2 fx (by omega) (by omega)) hp (fl_gd_fx gd2 fx (by omega) (by omega)) (show f < 64 by omega)
    have fin : fl_Rn fl_C 141 10 [some (.ref 259), some (.int (Int32.ofNat f))] [] x = fl_Rn fl_C 141 10 [some (.ref 259), some (.int (Int32.ofNat (f + 1)))] [] y := by
      clear w m l1 hp gd2 rx l2 o1 hy mx
      rw [fbC_141_10, e88, fbP_141_15]
      simp (disch := omega) only [hgx.1, hgx.2, fl_KM, fl_RM, fl_lit, fl_nadd, fl_nmul, fl_ndiv, fl_nsub, fl_msub, fl_nle, fl_nlt, fl_neq, fl_nclamp, fl_nin, fl_ltT, fl_ltF, fl_leT, fl_leF, fl_eqT, fl_eqF, decide_true, decide_false, Bool.true_and, Bool.and_true, Bool.false_and, Bool.and_false, if_true, if_false, Bool.false_eq_true, Option.isSome_some, Option.getD_some, not_true_eq_false, not_false_eq_true, Option.toList_some, Option.toList_none, List.cons_append, List.nil_append, e140, fbP_141_23]
    show fl_to (fl_Rn fl_C 141 10 [some (.ref 259), some (.int (Int32.ofNat f))] [] x) _
    rw [fin]
    refine hy y ⟨fl_fx_tr fx fy, ?_⟩
    intro f' hf'
    by_cases e : f' = f
    · subst e; exact ry
    · exact fl_rf_oth w1 (rx f' (by omega)) oy e
