/-! CONSTRUCTORS: the net 1:a of a new object, its run -/
section
variable {k0 : Nat → Nat × Nat} {h h' H : fl_H} {S : Nat → Nat → Prop}
theorem fn_22 (G : fn_G h) (i0 : fl_i h 28 0 = Int32.ofNat 0) (i1 : fl_i h 28 1 = Int32.ofNat 0) (i3 : fl_i h 28 3 = Int32.ofNat 0) : ∃ y, fl_cl fl_C 22 [.ref 28, .int (Int32.ofNat 1)] h = some (some none, y) ∧ fl_df (fun q j => fn_S21 q j ∨ (q = 28 ∧ j = 0)) h y ∧ fl_i y 28 0 = Int32.ofNat 1 ∧ fl_i y 28 1 = Int32.ofNat 1 ∧ fl_i y 28 3 = Int32.ofNat 0 ∧ fl_l y 30 0 = 0 ∧ fl_l y 34 0 = -1 ∧ fl_l y 32 0 = 0 ∧ fl_l y 36 0 = -1 := by
  obtain ⟨h1, e, d, j1, j3, x1, x2, x3, x4⟩ := fn_21 G i1 i3
  have g1 := fn_G_df G d
  have j0 : fl_i h1 28 0 = Int32.ofNat 0 := by rw [(d.2.2.2 28 0 (by omega)).1]; exact i0
  have d2 : fl_df (fun q j => q = 28 ∧ j = 0) h1 (fl_wi h1 28 (fl_up (fl_i h1 28) 0 (Int32.ofNat (0 + 1)))) := fl_df_wiu fl_df_rfl ⟨rfl, rfl⟩
  have m2 : fl_i (fl_wi h1 28 (fl_up (fl_i h1 28) 0 (Int32.ofNat (0 + 1)))) 28 0 = Int32.ofNat 1 := by rw [fl_i_wi, if_pos rfl, fl_up_self]
  generalize h2e : fl_wi h1 28 (fl_up (fl_i h1 28) 0 (Int32.ofNat (0 + 1))) = h2 at *
  have g2 := fn_G_df g1 d2
  refine ⟨h2, ?_, fl_df_tr (fl_df_mo d (fun q j z => Or.inl z)) (fl_df_mo d2 (fun q j z => Or.inr z)), m2, by rw [(d2.2.2.2 28 1 (by omega)).1]; exact j1, by rw [(d2.2.2.2 28 3 (by omega)).1]; exact j3, by rw [(d2.2.2.2 30 0 (by omega)).2]; exact x1, by rw [(d2.2.2.2 34 0 (by omega)).2]; exact x2, by rw [(d2.2.2.2 32 0 (by omega)).2]; exact x3, by rw [(d2.2.2.2 36 0 (by omega)).2]; exact x4⟩
  have e9 : fl_Rn fl_C 22 2 [some (.ref 28), some (.int (Int32.ofNat 1)), some (.int (Int32.ofNat (0 + 1)))] [] h2 = some (some none, h2) := by
    clear d d2 m2 h2e
    rw [fbC_22_2]
    simp (disch := omega) only [fl_lit, fl_nadd, fl_nmul, fl_ndiv, fl_nsub, fl_msub, fl_nle, fl_nlt, fl_neq, fl_nclamp, fl_nin, fl_ltT, fl_ltF, fl_leT, fl_leF, fl_eqT, fl_eqF, decide_true, decide_false, Bool.true_and, Bool.and_true, Bool.false_and, Bool.and_false, if_true, if_false, Bool.false_eq_true, Option.isSome_some, Option.getD_some, not_true_eq_false, not_false_eq_true, Option.toList_some, Option.toList_none, List.cons_append, List.nil_append, fbC_22_39]
  clear d d2 m2 x1 x2 x3 x4
  rw [fbE_22, fbC_22_2]
  simp (disch := omega) only [fl_si_wi, G.2.2.1, g1.2.2.1, fl_lit, fl_nadd, fl_nmul, fl_ndiv, fl_nsub, fl_msub, fl_nle, fl_nlt, fl_neq, fl_nclamp, fl_nin, fl_ltT, fl_ltF, fl_leT, fl_leF, fl_eqT, fl_eqF, decide_true, decide_false, Bool.true_and, Bool.and_true, Bool.false_and, Bool.and_false, if_true, if_false, Bool.false_eq_true, Option.isSome_some, Option.getD_some, not_true_eq_false, not_false_eq_true, Option.toList_some, Option.toList_none, List.cons_append, List.nil_append, i1, e, fbP_22_23, j0, h2e, fbC_22_33]
  exact e9
theorem fn_23 (G : fn_G h) (i4 : fl_i h 28 4 = Int32.ofNat 0) : ∃ y, fl_cl fl_C 23 [.ref 28, .int (Int32.ofNat 0)] h = some (some none, y) ∧ fl_df (fun q j => (q = 28 ∧ j = 4) ∨ q = 40) h y ∧ fl_i y 28 4 = Int32.ofNat 1 ∧ fl_l y 40 0 = 0 := by
  obtain ⟨h1, p1, d1, l1⟩ := fn_put (i := 0) G.2.2.2.2.2.2.2.1 (by omega) (by omega) (Int32.toInt64 (Int32.ofNat 0))
  have g1 := fn_G_df G d1
  have j0 : fl_i h1 28 4 = Int32.ofNat 0 := by rw [(d1.2.2.2 28 4 (by omega)).1]; exact i4
  have d2 : fl_df (fun q j => q = 28 ∧ j = 4) h1 (fl_wi h1 28 (fl_up (fl_i h1 28) 4 (Int32.ofNat (0 + 1)))) := fl_df_wiu fl_df_rfl ⟨rfl, rfl⟩
  have m2 : fl_i (fl_wi h1 28 (fl_up (fl_i h1 28) 4 (Int32.ofNat (0 + 1)))) 28 4 = Int32.ofNat 1 := by rw [fl_i_wi, if_pos rfl, fl_up_self]
  generalize h2e : fl_wi h1 28 (fl_up (fl_i h1 28) 4 (Int32.ofNat (0 + 1))) = h2 at *
  refine ⟨h2, ?_, fl_df_tr (fl_df_mo d1 (fun q j z => by omega)) (fl_df_mo d2 (fun q j z => Or.inl z)), m2, ?_⟩
  · clear d1 d2 m2 l1
    rw [fbE_23]
    simp (disch := omega) only [fl_si_wi, G.2.2.1, G.2.2.2.2.2.2.2.1, g1.2.2.1, fl_lit, fl_nadd, fl_nmul, fl_ndiv, fl_nsub, fl_msub, fl_nle, fl_nlt, fl_neq, fl_nclamp, fl_nin, fl_ltT, fl_ltF, fl_leT, fl_leF, fl_eqT, fl_eqF, decide_true, decide_false, Bool.true_and, Bool.and_true, Bool.false_and, Bool.and_false, if_true, if_false, Bool.false_eq_true, Option.isSome_some, Option.getD_some, not_true_eq_false, not_false_eq_true, Option.toList_some, Option.toList_none, List.cons_append, List.nil_append, i4, p1, fbP_23_13, j0, h2e]
  · rw [(d2.2.2.2 40 0 (by omega)).2, l1, fl_up_self]
    decide
theorem fn_sb0 {o : Nat} {g : Nat → Nat} (e : g 0 = g 1) : fl_sb h o g = h := by
  unfold fl_sb
  rw [e, fl_hy_0, fl_hy_0]
  exact fl_ww_self rfl rfl (by omega)
theorem fn_28 (G : fn_G h) (i0 : fl_i h 28 0 = Int32.ofNat 1) (i1 : fl_i h 28 1 = Int32.ofNat 1) : fl_cl fl_C 28 [.ref 27] h = some (some none, fl_rs h 27 fn_gg) := by
  have e : fl_rs h 27 fn_gg = fl_rs0 h 27 := by
    unfold fl_rs
    rw [fn_sb0 rfl, fn_sb0 rfl]
  rw [e]
  have d : fl_df (fun q _ => q = 27) h (fl_rs0 h 27) := by
    unfold fl_rs0
    exact fl_df_wl (fl_df_wi fl_df_rfl (fun j z => absurd rfl z)) (fun j z => absurd rfl z)
  have G1 := fn_G_df G d
  have j0 : fl_i (fl_rs0 h 27) 28 0 = Int32.ofNat 1 := by rw [(d.2.2.2 28 0 (by omega)).1]; exact i0
  have j1 : fl_i (fl_rs0 h 27) 28 1 = Int32.ofNat 1 := by rw [(d.2.2.2 28 1 (by omega)).1]; exact i1
  have e5 : fl_Rn fl_C 28 20 [some (.ref 27)] [] (fl_rs0 h 27) = some (some none, fl_rs0 h 27) := by
    clear d e
    generalize fl_rs0 h 27 = x at *
    rw [fbC_28_20]
    simp (disch := omega) only [G1, fl_lit, fl_nadd, fl_nmul, fl_ndiv, fl_nsub, fl_msub, fl_nle, fl_nlt, fl_neq, fl_nclamp, fl_nin, fl_ltT, fl_ltF, fl_leT, fl_leF, fl_eqT, fl_eqF, decide_true, decide_false, Bool.true_and, Bool.and_true, Bool.false_and, Bool.and_false, if_true, if_false, Bool.false_eq_true, Option.isSome_some, Option.getD_some, not_true_eq_false, not_false_eq_true, Option.toList_some, Option.toList_none, List.cons_append, List.nil_append, fbE_27, fbE_26, j0, j1, fbC_26_5, fbP_27_8, fbP_27_16, fbP_28_31]
  unfold fl_rs0 at e5 ⊢
  clear d e G1 j0 j1
  rw [fbE_28]
  simp (disch := omega) only [fl_k_wl, fl_r_wl, fl_i_wl, fl_l_wl, fl_1_wl, fl_k_wi, fl_r_wi, fl_l_wi, fl_1_wi, fl_i_wi, fl_k_si, fl_r_si, fl_l_si, fl_k_sl, fl_r_sl, fl_i_sl, fl_up_self, fl_up_ne, fl_si_wi, fl_sl_wl, fl_wi_wi, fl_wl_wl, G.2.1, fl_lit, fl_nadd, fl_nmul, fl_ndiv, fl_nsub, fl_msub, fl_nle, fl_nlt, fl_neq, fl_nclamp, fl_nin, fl_ltT, fl_ltF, fl_leT, fl_leF, fl_eqT, fl_eqF, decide_true, decide_false, Bool.true_and, Bool.and_true, Bool.false_and, Bool.and_false, if_true, if_false, Bool.false_eq_true, Option.isSome_some, Option.getD_some, not_true_eq_false, not_false_eq_true, Option.toList_some, Option.toList_none, List.cons_append, List.nil_append, fbC_28_5, fbC_28_10, fbC_28_15, e5]
/-- the class's constructor, to its end -/
theorem fn_29n (G : fn_G h) (iz : ∀ q j, 27 ≤ q → q ≤ 40 → fl_i h q j = 0) (lz : ∀ q j, 27 ≤ q → q ≤ 40 → fl_l h q j = 0) : ∃ y, fl_Rn fl_C 29 129 [some (.ref 0)] [] h = some (some none, y) ∧ fl_df (fun q _ => 27 ≤ q ∧ q ≤ 65) h y ∧ fl_rn y 27 fn_gg 0 := by
  obtain ⟨h1, e1, d1, j0, j1, j3, x1, x2, x3, x4⟩ := fn_22 G (iz 28 0 (by omega) (by omega)) (iz 28 1 (by omega) (by omega)) (iz 28 3 (by omega) (by omega))
  have g1 := fn_G_df G d1
  obtain ⟨h2, e2, d2, k4, y1⟩ := fn_23 g1 (by rw [(d1.2.2.2 28 4 (by omega)).1]; exact iz 28 4 (by omega) (by omega))
  have g2 := fn_G_df g1 d2
  have k0' : fl_i h2 28 0 = Int32.ofNat 1 := by rw [(d2.2.2.2 28 0 (by omega)).1]; exact j0
  have k1' : fl_i h2 28 1 = Int32.ofNat 1 := by rw [(d2.2.2.2 28 1 (by omega)).1]; exact j1
  have k2' : fl_i h2 28 2 = Int32.ofNat 0 := by rw [(d2.2.2.2 28 2 (by omega)).1, (d1.2.2.2 28 2 (by omega)).1]; exact iz 28 2 (by omega) (by omega)
  have k3' : fl_i h2 28 3 = Int32.ofNat 0 := by rw [(d2.2.2.2 28 3 (by omega)).1]; exact j3
  have k7' : fl_i h2 27 4 = Int32.ofNat 0 := by rw [(d2.2.2.2 27 4 (by omega)).1, (d1.2.2.2 27 4 (by omega)).1]; exact iz 27 4 (by omega) (by omega)
  have e3 := fn_28 g2 k0' k1'
  have rg := fl_rs_rg (h := h2) (r := 27) (g := fn_gg)
  have d3 : fl_df (fun q _ => 27 ≤ q ∧ q ≤ 65) h2 (fl_rs h2 27 fn_gg) := ⟨rg.1, rg.2.1, rg.2.2.1, fun q j z => by
    have := rg.2.2.2 q (by omega)
    rw [this.1, this.2]
    exact ⟨rfl, rfl⟩⟩
  have nt : fl_net h2 28 fn_gg := by
    refine ⟨⟨k0', k1', k2', k3', k4⟩, fun k hk => ?_, fun k hk => ?_, fun k hk => ?_, fun k hk => ?_, fun p hp => absurd hp (Nat.not_lt_zero p), fun j hj => ?_⟩
    · have : k = 0 := by have := show k < 1 from hk; omega
      subst this
      rw [(d2.2.2.2 (28 + 2) 0 (by omega)).2]; exact x1
    · have : k = 0 := by have := show k < 1 from hk; omega
      subst this
      rw [(d2.2.2.2 (28 + 4) 0 (by omega)).2]; exact x3
    · have : k = 0 := by have := show k < 1 from hk; omega
      subst this
      rw [(d2.2.2.2 (28 + 6) 0 (by omega)).2, if_pos (by decide)]; exact x2
    · have : k = 0 := by have := show k < 1 from hk; omega
      subst this
      rw [(d2.2.2.2 (28 + 8) 0 (by omega)).2, if_neg (by decide)]; exact x4
    · have : j = 0 := by have := show j < 1 from hj; omega
      subst this
      exact y1
  have rn : fl_rn (fl_rs h2 27 fn_gg) 27 fn_gg 0 := fl_rs_rn fn_gg_wf nt k7' rfl
  generalize fl_rs h2 27 fn_gg = h3 at *
  refine ⟨h3, ?_, fl_df_tr (fl_df_mo d1 (fun q j z => by omega)) (fl_df_tr (fl_df_mo d2 (fun q j z => by omega)) d3), rn⟩
  have f1 := fn_G_df g1 d2
  clear d1 d2 d3 rn nt rg iz lz x1 x2 x3 x4 y1 k0' k1' k2' k3' k7' k4 j0 j1 j3
  rw [fbC_29_129]
  simp (disch := omega) only [G.1, G.2.1, G.2.2.1, g1.1, g1.2.1, g1.2.2.1, g2.1, g2.2.1, fl_lit, fl_nadd, fl_nmul, fl_ndiv, fl_nsub, fl_msub, fl_nle, fl_nlt, fl_neq, fl_nclamp, fl_nin, fl_ltT, fl_ltF, fl_leT, fl_leF, fl_eqT, fl_eqF, decide_true, decide_false, Bool.true_and, Bool.and_true, Bool.false_and, Bool.and_false, if_true, if_false, Bool.false_eq_true, Option.isSome_some, Option.getD_some, not_true_eq_false, not_false_eq_true, Option.toList_some, Option.toList_none, List.cons_append, List.nil_append, e1, fbP_29_140, fbC_29_140, e2, fbP_29_151, fbC_29_151, e3, fbP_29_158, fbC_29_158]
end
