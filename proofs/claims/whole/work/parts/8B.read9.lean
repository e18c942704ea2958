/-! THE READER of the class, whole -/
section
variable {k0 : Nat → Nat × Nat} {i0 : Nat → Nat → Int32} {h : fl_H} {g tx : Nat → Nat} {tn a : Nat} {P : fl_Ps} {r : fl_Ps ⊕ fl_Fa}
/-- all is cleared -/
theorem fc_68s (hg : fl_g k0 h) (z1 : fl_i h 21 1 = Int32.ofNat 4) (z2 : fl_i h 24 1 = Int32.ofNat 4) : ∃ y, fl_cl fl_C 68 [.ref 7, .ref 1] h = fl_Rn fl_C 68 31 [some (.ref 7), some (.ref 1)] [] y ∧ fl_df fl_Srd h y ∧ fl_ck y (0, fl_gin 0) := by
  have o7 := fl_o7 (k0 := k0)
  have o8 := (fl_o8o (k0 := k0)).1
  have o21 := (fl_o21 (k0 := k0)).1.1
  have o24 := (fl_o24 (k0 := k0)).1.1
  have W : ∀ (x : fl_H) (q j : Nat) (v : Int32), ∃ y, fl_wi x q (fl_up (fl_i x q) j v) = y ∧ fl_df (fun q' j' => q' = q ∧ j' = j) x y ∧ fl_i y q j = v := fun x q j v => ⟨_, rfl, fl_df_wiu fl_df_rfl ⟨rfl, rfl⟩, by rw [fl_i_wi, if_pos rfl, fl_up_self]⟩
  obtain ⟨a0, q0, d0, i0'⟩ := W h 8 0 (Int32.ofNat 0)
  obtain ⟨a1, q1, d1, i1⟩ := W a0 8 1 (Int32.ofNat 0)
  obtain ⟨a2, q2, d2, i2⟩ := W a1 8 2 (Int32.ofNat 0)
  obtain ⟨a3, q3, d3, i3⟩ := W a2 8 3 (Int32.ofNat 0)
  obtain ⟨a4, q4, d4, i4⟩ := W a3 8 4 (Int32.ofNat 0)
  obtain ⟨a5, q5, d5, i5⟩ := W a4 21 2 (Int32.ofNat 0)
  obtain ⟨a6, q6, d6, i6⟩ := W a5 24 2 (Int32.ofNat 0)
  obtain ⟨a7, q7, d7, i7⟩ := W a6 7 3 (Int32.ofNat 0)
  obtain ⟨a8, q8, d8, i8⟩ := W a7 7 4 (Int32.ofNat 0)
  have g0 := fl_df_g hg d0
  have g1 := fl_df_g g0 d1
  have g2 := fl_df_g g1 d2
  have g3 := fl_df_g g2 d3
  have g4 := fl_df_g g3 d4
  have g5 := fl_df_g g4 d5
  have g6 := fl_df_g g5 d6
  have g7 := fl_df_g g6 d7
  refine ⟨a8, ?_, ?_, ?_, i8, ⟨⟨?_, ?_, ?_, ?_, ?_⟩, fun k hk => ?_, fun k hk => ?_, fun k hk => ?_, fun k hk => ?_, fun p hp => ?_, fun j hj => ?_⟩, ?_, ?_, ?_, ?_, fun j hj => absurd hj (Nat.not_lt_zero j)⟩
  · have e39 : fl_cl fl_C 39 [.ref 8] h = some (some none, a4) := by
      rw [fbE_39]
      simp (disch := omega) only [fl_si_wi, hg.1, g0.1, g1.1, g2.1, g3.1, o8, fl_lit, fl_nadd, fl_nmul, fl_ndiv, fl_nsub, fl_msub, fl_nle, fl_nlt, fl_neq, fl_nclamp, fl_nin, fl_ltT, fl_ltF, fl_leT, fl_leF, fl_eqT, fl_eqF, decide_true, decide_false, Bool.true_and, Bool.and_true, Bool.false_and, Bool.and_false, if_true, if_false, Bool.false_eq_true, Option.isSome_some, Option.getD_some, not_true_eq_false, not_false_eq_true, Option.toList_some, Option.toList_none, List.cons_append, List.nil_append, q0, fbC_39_5, q1, fbC_39_10, q2, fbC_39_15, q3, fbC_39_20, q4]
    have e40 : fl_cl fl_C 40 [.ref 21] a4 = some (some none, a5) := by
      rw [fbE_40]
      simp (disch := omega) only [fl_si_wi, g4.1, o21, fl_lit, fl_nadd, fl_nmul, fl_ndiv, fl_nsub, fl_msub, fl_nle, fl_nlt, fl_neq, fl_nclamp, fl_nin, fl_ltT, fl_ltF, fl_leT, fl_leF, fl_eqT, fl_eqF, decide_true, decide_false, Bool.true_and, Bool.and_true, Bool.false_and, Bool.and_false, if_true, if_false, Bool.false_eq_true, Option.isSome_some, Option.getD_some, not_true_eq_false, not_false_eq_true, Option.toList_some, Option.toList_none, List.cons_append, List.nil_append, q5]
    have e40b : fl_cl fl_C 40 [.ref 24] a5 = some (some none, a6) := by
      rw [fbE_40]
      simp (disch := omega) only [fl_si_wi, g5.1, o24, fl_lit, fl_nadd, fl_nmul, fl_ndiv, fl_nsub, fl_msub, fl_nle, fl_nlt, fl_neq, fl_nclamp, fl_nin, fl_ltT, fl_ltF, fl_leT, fl_leF, fl_eqT, fl_eqF, decide_true, decide_false, Bool.true_and, Bool.and_true, Bool.false_and, Bool.and_false, if_true, if_false, Bool.false_eq_true, Option.isSome_some, Option.getD_some, not_true_eq_false, not_false_eq_true, Option.toList_some, Option.toList_none, List.cons_append, List.nil_append, q6]
    clear d0 d1 d2 d3 d4 d5 d6 d7 d8
    rw [fbE_68]
    simp (disch := omega) only [fl_si_wi, hg.1, hg.2, g4.1, g4.2, g5.1, g5.2, g6.1, g7.1, o7, o8, o21, o24, fl_lit, fl_nadd, fl_nmul, fl_ndiv, fl_nsub, fl_msub, fl_nle, fl_nlt, fl_neq, fl_nclamp, fl_nin, fl_ltT, fl_ltF, fl_leT, fl_leF, fl_eqT, fl_eqF, decide_true, decide_false, Bool.true_and, Bool.and_true, Bool.false_and, Bool.and_false, if_true, if_false, Bool.false_eq_true, Option.isSome_some, Option.getD_some, not_true_eq_false, not_false_eq_true, Option.toList_some, Option.toList_none, List.cons_append, List.nil_append, fl_bF, e39, fbP_68_7, e40, fbP_68_14, e40b, fbP_68_21, q7, fbC_68_26, q8]
  · exact fl_df_tr (fl_df_mo d0 (fun q j z => by omega)) (fl_df_tr (fl_df_mo d1 (fun q j z => by omega)) (fl_df_tr (fl_df_mo d2 (fun q j z => by omega)) (fl_df_tr (fl_df_mo d3 (fun q j z => by omega)) (fl_df_tr (fl_df_mo d4 (fun q j z => by omega)) (fl_df_tr (fl_df_mo d5 (fun q j z => by omega)) (fl_df_tr (fl_df_mo d6 (fun q j z => by omega)) (fl_df_tr (fl_df_mo d7 (fun q j z => by omega)) (fl_df_mo d8 (fun q j z => by omega)))))))))
  · rw [(d8.2.2.2 7 3 (by omega)).1]; exact i7
  · rw [(d8.2.2.2 8 0 (by omega)).1, (d7.2.2.2 8 0 (by omega)).1, (d6.2.2.2 8 0 (by omega)).1, (d5.2.2.2 8 0 (by omega)).1, (d4.2.2.2 8 0 (by omega)).1, (d3.2.2.2 8 0 (by omega)).1, (d2.2.2.2 8 0 (by omega)).1, (d1.2.2.2 8 0 (by omega)).1]; exact i0'
  · rw [(d8.2.2.2 8 1 (by omega)).1, (d7.2.2.2 8 1 (by omega)).1, (d6.2.2.2 8 1 (by omega)).1, (d5.2.2.2 8 1 (by omega)).1, (d4.2.2.2 8 1 (by omega)).1, (d3.2.2.2 8 1 (by omega)).1, (d2.2.2.2 8 1 (by omega)).1]; exact i1
  · rw [(d8.2.2.2 8 2 (by omega)).1, (d7.2.2.2 8 2 (by omega)).1, (d6.2.2.2 8 2 (by omega)).1, (d5.2.2.2 8 2 (by omega)).1, (d4.2.2.2 8 2 (by omega)).1, (d3.2.2.2 8 2 (by omega)).1]; exact i2
  · rw [(d8.2.2.2 8 3 (by omega)).1, (d7.2.2.2 8 3 (by omega)).1, (d6.2.2.2 8 3 (by omega)).1, (d5.2.2.2 8 3 (by omega)).1, (d4.2.2.2 8 3 (by omega)).1]; exact i3
  · rw [(d8.2.2.2 8 4 (by omega)).1, (d7.2.2.2 8 4 (by omega)).1, (d6.2.2.2 8 4 (by omega)).1, (d5.2.2.2 8 4 (by omega)).1]; exact i4
  · exact absurd hk (Nat.not_lt_zero k)
  · exact absurd hk (Nat.not_lt_zero k)
  · exact absurd hk (Nat.not_lt_zero k)
  · exact absurd hk (Nat.not_lt_zero k)
  · exact absurd hp (Nat.not_lt_zero p)
  · exact absurd hj (Nat.not_lt_zero j)
  · rw [(d8.2.2.2 21 1 (by omega)).1, (d7.2.2.2 21 1 (by omega)).1, (d6.2.2.2 21 1 (by omega)).1, (d5.2.2.2 21 1 (by omega)).1, (d4.2.2.2 21 1 (by omega)).1, (d3.2.2.2 21 1 (by omega)).1, (d2.2.2.2 21 1 (by omega)).1, (d1.2.2.2 21 1 (by omega)).1, (d0.2.2.2 21 1 (by omega)).1]; exact z1
  · rw [(d8.2.2.2 24 1 (by omega)).1, (d7.2.2.2 24 1 (by omega)).1, (d6.2.2.2 24 1 (by omega)).1, (d5.2.2.2 24 1 (by omega)).1, (d4.2.2.2 24 1 (by omega)).1, (d3.2.2.2 24 1 (by omega)).1, (d2.2.2.2 24 1 (by omega)).1, (d1.2.2.2 24 1 (by omega)).1, (d0.2.2.2 24 1 (by omega)).1]; exact z2
  · rw [(d8.2.2.2 21 2 (by omega)).1, (d7.2.2.2 21 2 (by omega)).1, (d6.2.2.2 21 2 (by omega)).1]; exact i5
  · rw [(d8.2.2.2 24 2 (by omega)).1, (d7.2.2.2 24 2 (by omega)).1]; exact i6
/-- what net answers, and tells of it -/
abbrev fl_nan (r : fl_Ps ⊕ fl_Fa) : Int32 := match r with
  | .inr e => -Int32.ofNat 1 - Int32.ofNat e.1
  | .inl P => if fl_any (fl_far P.2) (P.2 0) = true then -Int32.ofNat 200 else Int32.ofNat (2 * (P.2 0 + P.2 2))
abbrev fl_nca (r : fl_Ps ⊕ fl_Fa) : List (Nat × Nat) := match r with
  | .inr e => e.2
  | .inl P => if fl_any (fl_far P.2) (P.2 0) = true then fl_toofar P.2 else []
theorem fc_68 (sk : fl_sk k0 i0) (hs : fl_st k0 i0 h) (hg : fl_g k0 h) (iT : fl_iT h tn tx) (z1 : fl_i h 21 1 = Int32.ofNat 4) (z2 : fl_i h 24 1 = Int32.ofNat 4) : ∃ y, fl_cl fl_C 68 [.ref 7, .ref 1] h = some (some (some (.int (fl_nan (fl_read tx tn)))), y) ∧ fl_df fl_Srd h y ∧ fl_cz y (fl_nca (fl_read tx tn)) ∧ ∀ P, fl_read tx tn = .inl P → fl_any (fl_far P.2) (P.2 0) = false → fl_net y 8 P.2 := by
  have o7 := fl_o7 (k0 := k0)
  have t80 := iT.1
  obtain ⟨y0, e0, d0, c0⟩ := fc_68s hg z1 z2
  have g0 := fl_df_g hg d0
  have T0 : fl_iT y0 tn tx := fl_iT_df iT d0 (fun q j z => by omega)
  obtain ⟨y1, e1, d1, c1⟩ := fc_45 g0 T0 c0
  have d01 := fl_df_tr d0 d1
  have T1 : fl_iT y1 tn tx := fl_iT_df iT d01 (fun q j z => by omega)
  obtain ⟨y2, e2, d2, c2⟩ := fc_68l sk 80 _ y1 (Nat.le_refl _) (fl_st_df hs d01 (fun q j z => by omega)) (fl_df_g hg d01) T1 c1 (fun P e => by
    have k := fl_rinp_ok e
    exact ⟨k.1, by omega⟩)
  have d02 := fl_df_tr d01 d2
  have g2 := fl_df_g hg d02
  have T2 : fl_iT y2 tn tx := fl_iT_df iT d02 (fun q j z => by omega)
  rw [Nat.sub_self] at e2
  have rd : fl_read tx tn = fl_bnd (fl_bnd (fl_rinp tx tn) (fl_rlines tx tn 80)) (fl_rcol tx tn) := rfl
  have go : ∃ y3, fl_Rn fl_C 68 82 [some (.ref 7), some (.ref 1)] [] y2 = fl_Rn fl_C 68 94 [some (.ref 7)] [] y3 ∧ fl_df fl_Srd y2 y3 ∧ fl_crr y3 (fl_read tx tn) := by
    rw [rd]
    cases q : fl_bnd (fl_rinp tx tn) (fl_rlines tx tn 80) with
    | inr e =>
      rw [q] at c2
      have i4 : fl_i y2 7 4 = Int32.ofNat 1 := c2.2.1
      refine ⟨y2, ?_, fl_df_rfl, c2⟩
      have o71 := o7.1
      clear T0 T1 T2 c0 c1 c2 iT d0 d1 d2 d01 d02 hs
      rw [fbC_68_82]
      simp (disch := omega) only [g2.1, o71, fl_lit, fl_nadd, fl_nmul, fl_ndiv, fl_nsub, fl_msub, fl_nle, fl_nlt, fl_neq, fl_nclamp, fl_nin, fl_ltT, fl_ltF, fl_leT, fl_leF, fl_eqT, fl_eqF, decide_true, decide_false, Bool.true_and, Bool.and_true, Bool.false_and, Bool.and_false, if_true, if_false, Bool.false_eq_true, Option.isSome_some, Option.getD_some, not_true_eq_false, not_false_eq_true, Option.toList_some, Option.toList_none, List.cons_append, List.nil_append, i4]
    | inl P =>
      rw [q] at c2
      have cP : fl_ck y2 P := c2
      have i4 : fl_i y2 7 4 = Int32.ofNat 0 := cP.2.1
      obtain ⟨P1, q1, q2⟩ := fl_bnd_inl q
      have k1 := fl_rinp_ok q1
      have k2 := fl_rlines_ok 80 P1 P q2 k1.1 (by omega)
      obtain ⟨y3, e3, d3, c3⟩ := fc_63 g2 T2 cP k2.1 k2.2.1
      refine ⟨y3, ?_, d3, c3⟩
      have o71 := o7.1
      clear T0 T1 T2 c0 c1 c2 cP iT d0 d1 d2 d01 d02 hs d3 c3 k1 k2
      rw [fbC_68_82]
      simp (disch := omega) only [g2.1, o71, fl_lit, fl_nadd, fl_nmul, fl_ndiv, fl_nsub, fl_msub, fl_nle, fl_nlt, fl_neq, fl_nclamp, fl_nin, fl_ltT, fl_ltF, fl_leT, fl_leF, fl_eqT, fl_eqF, decide_true, decide_false, Bool.true_and, Bool.and_true, Bool.false_and, Bool.and_false, if_true, if_false, Bool.false_eq_true, Option.isSome_some, Option.getD_some, not_true_eq_false, not_false_eq_true, Option.toList_some, Option.toList_none, List.cons_append, List.nil_append, i4, e3, fbP_68_94]
  obtain ⟨y3, e3, d3, c3⟩ := go
  have d03 := fl_df_tr d02 d3
  have g3 := fl_df_g hg d03
  have st : fl_cl fl_C 68 [.ref 7, .ref 1] h = fl_Rn fl_C 68 94 [some (.ref 7)] [] y3 := by
    have s1 : fl_Rn fl_C 68 31 [some (.ref 7), some (.ref 1)] [] y0 = fl_Rn fl_C 68 38 [some (.ref 7), some (.ref 1), some (.int (Int32.ofNat 0))] [] y1 := by
      have o71 := o7.1
      clear T0 T1 T2 c0 c1 c2 iT d0 d1 d2 d01 d02 hs d3 c3 d03
      rw [fbC_68_31]
      simp (disch := omega) only [g0.1, o71, fl_lit, fl_nadd, fl_nmul, fl_ndiv, fl_nsub, fl_msub, fl_nle, fl_nlt, fl_neq, fl_nclamp, fl_nin, fl_ltT, fl_ltF, fl_leT, fl_leF, fl_eqT, fl_eqF, decide_true, decide_false, Bool.true_and, Bool.and_true, Bool.false_and, Bool.and_false, if_true, if_false, Bool.false_eq_true, Option.isSome_some, Option.getD_some, not_true_eq_false, not_false_eq_true, Option.toList_some, Option.toList_none, List.cons_append, List.nil_append, e1, fbP_68_36]
    rw [e0, s1, e2, e3]
  rw [st]
  clear st e0 e1 e2 e3
  have o71 := o7.1
  cases q : fl_read tx tn with
  | inr e =>
    rw [q] at c3
    have i4 : fl_i y3 7 4 = Int32.ofNat 1 := c3.2.1
    have i3 : fl_i y3 7 3 = Int32.ofNat e.1 := c3.1
    refine ⟨y3, ?_, d03, c3.2.2, fun P z => by cases z⟩
    clear T0 T1 T2 c0 c1 c2 iT d0 d1 d2 d01 d02 hs d3 c3 d03 rd
    rw [fbC_68_94]
    simp (disch := omega) only [g3.1, o71, fl_lit, fl_nadd, fl_nmul, fl_ndiv, fl_nsub, fl_msub, fl_nle, fl_nlt, fl_neq, fl_nclamp, fl_nin, fl_ltT, fl_ltF, fl_leT, fl_leF, fl_eqT, fl_eqF, decide_true, decide_false, Bool.true_and, Bool.and_true, Bool.false_and, Bool.and_false, if_true, if_false, Bool.false_eq_true, Option.isSome_some, Option.getD_some, not_true_eq_false, not_false_eq_true, Option.toList_some, Option.toList_none, List.cons_append, List.nil_append, i4, i3]
  | inl P =>
    rw [q] at c3
    have cP : fl_ck y3 P := c3
    have i4 : fl_i y3 7 4 = Int32.ofNat 0 := cP.2.1
    have ok := fl_read_ok q
    obtain ⟨y4, d4, c4⟩ := fc_67 g3 ok.1 cP.2.2.1 cP.2.2.2
    by_cases f : fl_any (fl_far P.2) (P.2 0) = true
    · rw [if_pos f] at c4
      have e67 := c4.1
      refine ⟨y4, ?_, fl_df_tr d03 d4, by show fl_cz y4 (if _ then _ else _); rw [if_pos f]; exact c4.2, fun P' z z2 => by cases z; rw [f] at z2; cases z2⟩
      have fn : fl_nan (.inl P) = -Int32.ofNat 200 := if_pos f
      rw [fn]
      clear T0 T1 T2 c0 c1 c2 iT d0 d1 d2 d01 d02 hs d3 c3 d03 rd cP ok c4 d4
      rw [fbC_68_94]
      simp (disch := omega) only [g3.1, o71, fl_lit, fl_nadd, fl_nmul, fl_ndiv, fl_nsub, fl_msub, fl_nle, fl_nlt, fl_neq, fl_nclamp, fl_nin, fl_ltT, fl_ltF, fl_leT, fl_leF, fl_eqT, fl_eqF, decide_true, decide_false, Bool.true_and, Bool.and_true, Bool.false_and, Bool.and_false, if_true, if_false, Bool.false_eq_true, Option.isSome_some, Option.getD_some, not_true_eq_false, not_false_eq_true, Option.toList_some, Option.toList_none, List.cons_append, List.nil_append, i4, e67, fbP_68_114]
    · rw [if_neg f] at c4
      have e67 := c4.1
      refine ⟨y3, ?_, d03, by show fl_cz y3 (if _ then _ else _); rw [if_neg f]; exact cP.2.2.2, fun P' z z2 => by cases z; exact cP.2.2.1⟩
      have fn : fl_nan (.inl P) = Int32.ofNat (2 * (P.2 0 + P.2 2)) := if_neg f
      rw [fn]
      clear T0 T1 T2 c0 c1 c2 iT d0 d1 d2 d01 d02 hs d3 c3 d03 rd cP ok c4 d4
      rw [fbC_68_94]
      simp (disch := omega) only [g3.1, o71, fl_lit, fl_nadd, fl_nmul, fl_ndiv, fl_nsub, fl_msub, fl_nle, fl_nlt, fl_neq, fl_nclamp, fl_nin, fl_ltT, fl_ltF, fl_leT, fl_leF, fl_eqT, fl_eqF, decide_true, decide_false, Bool.true_and, Bool.and_true, Bool.false_and, Bool.and_false, if_true, if_false, Bool.false_eq_true, Option.isSome_some, Option.getD_some, not_true_eq_false, not_false_eq_true, Option.toList_some, Option.toList_none, List.cons_append, List.nil_append, i4, e67, fbP_68_114]
end
