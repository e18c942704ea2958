/-! net -/
abbrev fl_Sn (q j : Nat) : Prop := (7 ≤ q ∧ q ≤ 65) ∨ (q = 1 ∧ j = 2)
abbrev fl_Sm (q j : Nat) : Prop := fl_Srf q j ∨ (q = 259 ∧ (j = 0 ∨ j = 4 ∨ j = 6)) ∨ (q = 262 ∧ j < 126) ∨ (q = 263 ∧ j = 0)
section
variable {k0 : Nat → Nat × Nat} {i0 : Nat → Nat → Int32} {h : fl_H} {g tx : Nat → Nat} {tn a : Nat} {P : fl_Ps} {c : Nat × Nat × Nat × Bool}
abbrev fl_good (tx : Nat → Nat) (tn : Nat) (P : fl_Ps) : Prop := fl_read tx tn = .inl P ∧ fl_any (fl_far P.2) (P.2 0) = false
theorem fl_nan_neg (t80 : tn ≤ 80) (n : ¬ ∃ P, fl_good tx tn P) : fl_nan (fl_read tx tn) < Int32.ofNat 0 := by
  cases q : fl_read tx tn with
  | inr e =>
    have et := (fl_read_e q).1
    exact fl_neg_lt _ (by omega)
  | inl P =>
    have f : fl_any (fl_far P.2) (P.2 0) = true := by
      cases z : fl_any (fl_far P.2) (P.2 0) with
      | true => rfl
      | false => exact absurd ⟨P, q, z⟩ n
    have : fl_nan (.inl P) = -Int32.ofNat 200 := if_pos f
    rw [this]; decide
theorem fo_net_a0 (sk : fl_sk k0 i0) (hs : fl_st k0 i0 h) (hg : fl_g k0 h) (iT : fl_iT h tn tx) (z1 : fl_i h 21 1 = Int32.ofNat 4) (z2 : fl_i h 24 1 = Int32.ofNat 4) (n : ¬ ∃ P, fl_good tx tn P) : ∃ H, fl_cl fl_C 71 [.ref 0] h = some (some (some (.int (fl_nan (fl_read tx tn)))), H) ∧ fl_df (fun q j => (7 ≤ q ∧ q ≤ 26) ∨ (q = 1 ∧ j = 2)) h H ∧ fl_i H 1 2 = Int32.ofNat 0 ∧ fl_cz H (fl_nca (fl_read tx tn)) := by
  obtain ⟨y, ey, dy, cy, -⟩ := fc_68 sk hs hg iT z1 z2
  have gy := fl_df_g hg dy
  have neg := eq_true (fl_nan_neg iT.1 n)
  have e40 := fc_40 gy
  have d1 : fl_df (fun q j => q = 1 ∧ j = 2) y (fl_z1 y (Int32.ofNat 0)) := by
    unfold fl_z1
    exact fl_df_wiu fl_df_rfl ⟨rfl, rfl⟩
  have v1 : fl_i (fl_z1 y (Int32.ofNat 0)) 1 2 = Int32.ofNat 0 := by
    unfold fl_z1
    rw [fl_i_wi, if_pos rfl, fl_up_self]
  generalize fl_z1 y (Int32.ofNat 0) = H at *
  refine ⟨H, ?_, fl_df_tr (fl_df_mo dy (fun q j z => by omega)) (fl_df_mo d1 (fun q j z => by omega)), v1, fl_cz_df cy d1 (fun q j z => by omega)⟩
  have o7 := (fl_o7 (k0 := k0)).1
  have o1 := (fl_o1 (k0 := k0)).1
  clear iT cy dy d1 hs n
  generalize fl_nan (fl_read tx tn) = N at *
  rw [fbE_71]
  simp (disch := omega) only [hg.1, hg.2, gy.1, gy.2, fl_KF, fl_RF, o7, o1, fl_lit, fl_nadd, fl_nmul, fl_ndiv, fl_nsub, fl_msub, fl_nle, fl_nlt, fl_neq, fl_nclamp, fl_nin, fl_ltT, fl_ltF, fl_leT, fl_leF, fl_eqT, fl_eqF, decide_true, decide_false, Bool.true_and, Bool.and_true, Bool.false_and, Bool.and_false, if_true, if_false, Bool.false_eq_true, Option.isSome_some, Option.getD_some, not_true_eq_false, not_false_eq_true, Option.toList_some, Option.toList_none, List.cons_append, List.nil_append, ey, fbP_71_11, e40, fbP_71_19, neg, fbC_71_55]
theorem fo_net_a (sk : fl_sk k0 i0) (hs : fl_st k0 i0 h) (hg : fl_g k0 h) (iT : fl_iT h tn tx) (z1 : fl_i h 21 1 = Int32.ofNat 4) (z2 : fl_i h 24 1 = Int32.ofNat 4) (G : fl_good tx tn P) : ∃ H, fl_cl fl_C 71 [.ref 0] h = some (some (some (.int (fl_nan (fl_read tx tn)))), H) ∧ fl_df fl_Sn h H ∧ fl_i H 1 2 = Int32.ofNat 0 ∧ fl_cz H (fl_nca (fl_read tx tn)) ∧ fl_wf P.2 ∧ fl_rn H 27 P.2 0 := by
  obtain ⟨y, ey, dy, cy, ny⟩ := fc_68 sk hs hg iT z1 z2
  have gy := fl_df_g hg dy
  have ok := fl_read_ok G.1
  have w : fl_wf P.2 := fl_wf_RO ok.1 ok.2 G.2
  have n0 := ny P G.1 G.2
  have g76 := ok.1.2.1.2.1
  have g77 := ok.1.2.1.2.2
  have w0 : P.2 0 ≤ 12 := w.1.2.2.2.1
  have w2 : P.2 2 ≤ 20 := w.1.2.2.2.2.1
  have e40 := fc_40 gy
  have d1 : fl_df (fun q j => q = 1 ∧ j = 2) y (fl_z1 y (Int32.ofNat 0)) := by
    unfold fl_z1
    exact fl_df_wiu fl_df_rfl ⟨rfl, rfl⟩
  have v1 : fl_i (fl_z1 y (Int32.ofNat 0)) 1 2 = Int32.ofNat 0 := by
    unfold fl_z1
    rw [fl_i_wi, if_pos rfl, fl_up_self]
  generalize fl_z1 y (Int32.ofNat 0) = h1 at *
  have g1 := fl_df_g gy d1
  have n1 : fl_net h1 8 P.2 := fl_net8_df n0 d1 (fun q j z => by omega)
  have e70 := fc_70 (n := 28) (m := 8) g1 fl_sk28 fl_o8 (by omega)
  have n2 : fl_net (fl_cpN h1 28 8) 28 P.2 := fl_cpN_net w n1 (by omega)
  have d2 : fl_df (fun q _ => 28 ≤ q ∧ q ≤ 40) h1 (fl_cpN h1 28 8) := ⟨fl_1_cpN, fl_k_cpN, fl_r_cpN, fun q j z => ⟨by rw [fl_i_cpN (by omega)], by rw [fl_l_cpN (by omega)]⟩⟩
  generalize fl_cpN h1 28 8 = h2 at *
  have g2 := fl_df_g g1 d2
  have d3 : fl_df (fun q j => q = 27 ∧ j = 4) h2 (fl_wi h2 27 (fl_up (fl_i h2 27) 4 (Int32.ofNat 0))) := fl_df_wiu fl_df_rfl ⟨rfl, rfl⟩
  have v3 : fl_i (fl_wi h2 27 (fl_up (fl_i h2 27) 4 (Int32.ofNat 0))) 27 4 = Int32.ofNat 0 := by rw [fl_i_wi, if_pos rfl, fl_up_self]
  generalize h3e : fl_wi h2 27 (fl_up (fl_i h2 27) 4 (Int32.ofNat 0)) = h3 at *
  have g3 := fl_df_g g2 d3
  have n3 : fl_net h3 28 P.2 := fl_net_fr n2 (fl_df_i d3 (fun j => by omega)) (fun q z1 z2 => fl_df_l d3 (fun j => by omega))
  have e28 := fc_28 (r := 27) g3 fl_o27 w n3
  have rn := fl_rs_rn (r := 27) w n3 (by rw [g77]; exact v3) g76
  have d4 : fl_df (fun q _ => 27 ≤ q ∧ q ≤ 65) h3 (fl_rs h3 27 P.2) := fl_df_rg fl_rs_rg (fun q j a b => by omega)
  generalize fl_rs h3 27 P.2 = h4 at *
  have d14 : fl_df (fun q _ => 27 ≤ q ∧ q ≤ 65) h1 h4 := fl_df_tr (fl_df_mo d2 (fun q j z => by omega)) (fl_df_tr (fl_df_mo d3 (fun q j z => by omega)) d4)
  refine ⟨h4, ?_, fl_df_tr (fl_df_mo dy (fun q j z => by omega)) (fl_df_tr (fl_df_mo d1 (fun q j z => by omega)) (fl_df_mo d14 (fun q j z => by omega))), by rw [(d14.2.2.2 1 2 (by omega)).1]; exact v1, fl_cz_df (fl_cz_df cy d1 (fun q j z => by omega)) d14 (fun q j z => by omega), w, rn⟩
  have na : fl_nan (fl_read tx tn) = Int32.ofNat (2 * (P.2 0 + P.2 2)) := by
    rw [G.1]
    exact if_neg (by rw [G.2]; decide)
  rw [na] at ey ⊢
  have o7 := fl_o7 (k0 := k0)
  have o1 := (fl_o1 (k0 := k0)).1
  have R := fl_o27 (k0 := k0)
  have o27 : fl_KK k0 27 = (1, 7) ∧ fl_RR 27 0 = some 28 := ⟨R.1.1, R.1.2.1⟩
  have o28 := (fl_sk28 (k0 := k0)).1.1
  clear iT cy dy d1 hs ny n0 n1 n2 n3 d2 d3 d4 d14 w rn ok G R na
  rw [fbE_71]
  simp (disch := omega) only [fl_si_wi, hg.1, hg.2, gy.1, gy.2, g1.1, g1.2, g2.1, g2.2, g3.1, g3.2, fl_KF, fl_RF, o7, o1, o27, o28, fl_lit, fl_nadd, fl_nmul, fl_ndiv, fl_nsub, fl_msub, fl_nle, fl_nlt, fl_neq, fl_nclamp, fl_nin, fl_ltT, fl_ltF, fl_leT, fl_leF, fl_eqT, fl_eqF, decide_true, decide_false, Bool.true_and, Bool.and_true, Bool.false_and, Bool.and_false, if_true, if_false, Bool.false_eq_true, Option.isSome_some, Option.getD_some, not_true_eq_false, not_false_eq_true, Option.toList_some, Option.toList_none, List.cons_append, List.nil_append, fl_bF, ey, fbP_71_11, e40, fbP_71_19, e70, fbP_71_40, h3e, fbC_71_48, e28, fbP_71_55, fbC_71_55]
/-- the reference, ahead of what it reads -/
theorem fr_89s (hg : fl_g k0 h) (i4 : fl_i h 259 4 = Int32.ofNat tn) (t80 : tn ≤ 80) (ht : ∀ j, j < tn → tx j < 256 ∧ fl_i h 261 j = Int32.ofNat (tx j)) : ∃ y, fl_cl fl_C 89 [.ref 259] h = fl_ca fl_C 89 18 [some (.ref 259)] [] [] (fl_cl fl_C 86 [.ref 259] y) ∧ fl_df (fun q j => q = 259 ∧ (j = 0 ∨ j = 4 ∨ j = 5 ∨ j = 6 ∨ j = 11)) h y ∧ fl_i y 259 4 = Int32.ofNat 0 ∧ fl_i y 259 5 = Int32.ofNat 0 ∧ fl_xT y tn tx := by
  have W : ∀ (x : fl_H) (j : Nat) (v : Int32), ∃ y, fl_wi x 259 (fl_up (fl_i x 259) j v) = y ∧ fl_df (fun q' j' => q' = 259 ∧ j' = j) x y ∧ fl_i y 259 j = v := fun x j v => ⟨_, rfl, fl_df_wiu fl_df_rfl ⟨rfl, rfl⟩, by rw [fl_i_wi, if_pos rfl, fl_up_self]⟩
  obtain ⟨a0, q0, d0, v0⟩ := W h 0 (Int32.ofNat 0)
  obtain ⟨a1, q1, d1, v1⟩ := W a0 6 (Int32.ofNat tn)
  obtain ⟨a2, q2, d2, v2⟩ := W a1 4 (Int32.ofNat 0)
  obtain ⟨a3, q3, d3, v3⟩ := W a2 5 (Int32.ofNat 0)
  obtain ⟨a4, q4, d4, v4⟩ := W a3 11 (Int32.ofNat 0)
  have g0 := fl_df_g hg d0
  have g1 := fl_df_g g0 d1
  have g2 := fl_df_g g1 d2
  have g3 := fl_df_g g2 d3
  have g4 := fl_df_g g3 d4
  have b4 : fl_i a0 259 4 = Int32.ofNat tn := by rw [(d0.2.2.2 259 4 (by omega)).1]; exact i4
  have dT : fl_df (fun q j => q = 259 ∧ (j = 0 ∨ j = 4 ∨ j = 5 ∨ j = 6 ∨ j = 11)) h a4 := fl_df_tr (fl_df_mo d0 (fun q j z => by omega)) (fl_df_tr (fl_df_mo d1 (fun q j z => by omega)) (fl_df_tr (fl_df_mo d2 (fun q j z => by omega)) (fl_df_tr (fl_df_mo d3 (fun q j z => by omega)) (fl_df_mo d4 (fun q j z => by omega)))))
  refine ⟨a4, ?_, dT, ?_, ?_, t80, ?_, fun j hj => ?_⟩
  · have e72 : fl_cl fl_C 72 [.ref 259] a0 = some (some none, a3) := by
      clear d0 d1 d2 d3 d4 dT ht
      rw [fbE_72]
      simp (disch := omega) only [fl_si_wi, g0.1, g1.1, g2.1, fl_KM, fl_RM, fl_lit, fl_nadd, fl_nmul, fl_ndiv, fl_nsub, fl_msub, fl_nle, fl_nlt, fl_neq, fl_nclamp, fl_nin, fl_ltT, fl_ltF, fl_leT, fl_leF, fl_eqT, fl_eqF, decide_true, decide_false, Bool.true_and, Bool.and_true, Bool.false_and, Bool.and_false, if_true, if_false, Bool.false_eq_true, Option.isSome_some, Option.getD_some, not_true_eq_false, not_false_eq_true, Option.toList_some, Option.toList_none, List.cons_append, List.nil_append, b4, q1, fbC_72_8, q2, fbC_72_13, q3]
    clear d0 d1 d2 d3 d4 dT ht
    rw [fbE_89]
    simp (disch := omega) only [fl_si_wi, hg.1, g0.1, g3.1, g4.1, fl_KM, fl_RM, fl_lit, fl_nadd, fl_nmul, fl_ndiv, fl_nsub, fl_msub, fl_nle, fl_nlt, fl_neq, fl_nclamp, fl_nin, fl_ltT, fl_ltF, fl_leT, fl_leF, fl_eqT, fl_eqF, decide_true, decide_false, Bool.true_and, Bool.and_true, Bool.false_and, Bool.and_false, if_true, if_false, Bool.false_eq_true, Option.isSome_some, Option.getD_some, not_true_eq_false, not_false_eq_true, Option.toList_some, Option.toList_none, List.cons_append, List.nil_append, q0, fbC_89_5, e72, fbP_89_9, q4, fbC_89_14]
  · rw [(d4.2.2.2 259 4 (by omega)).1, (d3.2.2.2 259 4 (by omega)).1]; exact v2
  · rw [(d4.2.2.2 259 5 (by omega)).1]; exact v3
  · rw [(d4.2.2.2 259 6 (by omega)).1, (d3.2.2.2 259 6 (by omega)).1, (d2.2.2.2 259 6 (by omega)).1]; exact v1
  · rw [(dT.2.2.2 261 j (by omega)).1]; exact ht j hj
end
