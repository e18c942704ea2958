/-! THE READER of the class: inputs; registers asked; whole -/
section
variable {k0 : Nat → Nat × Nat} {i0 : Nat → Nat → Int32} {h : fl_H} {g tx : Nat → Nat} {tn a : Nat} {P : fl_Ps} {r : fl_Ps ⊕ fl_Fa}
theorem fl_gin_v {n : Nat} : fl_gin n 0 = n ∧ fl_gin n 1 = n ∧ fl_gin n 2 = 0 ∧ fl_gin n 3 = 0 := by
  unfold fl_gin
  exact ⟨rfl, rfl, by rw [if_neg (by omega), if_neg (by omega)], by rw [if_neg (by omega), if_neg (by omega)]⟩
theorem fl_gin_z {n j : Nat} (a : j ≠ 0) (b : j ≠ 1) (c : j < 40) : fl_gin n j = 0 := by
  unfold fl_gin
  rw [if_neg (by omega), if_neg (by omega)]
theorem fl_cnt_ff {q : Nat → Bool} : ∀ {n : Nat}, (∀ i, i < n → q i = false) → fl_cnt q n = 0
  | 0, _ => rfl
  | n + 1, h => by rw [fl_cnt, fl_cnt_ff (fun i hi => h i (by omega)), h n (by omega)]; rfl
theorem fc_22l : ∀ m n k (h : fl_H), fl_g k0 h → fl_net h 8 (fl_gin k) → k + m = n → n ≤ 4 → ∃ y, fl_Rn fl_C 22 2 [some (.ref 8), some (.int (Int32.ofNat n)), some (.int (Int32.ofNat k))] [] h = some (some none, y) ∧ fl_df (fun q _ => 8 ≤ q ∧ q ≤ 20) h y ∧ fl_net y 8 (fl_gin n)
  | 0, n, k, h, hg, d, hk, hn => by
    have e : k = n := by omega
    subst e
    refine ⟨h, ?_, fl_df_rfl, d⟩
    clear d
    rw [fbC_22_2]
    simp (disch := omega) only [fl_lit, fl_nadd, fl_nmul, fl_ndiv, fl_nsub, fl_msub, fl_nle, fl_nlt, fl_neq, fl_nclamp, fl_nin, fl_ltT, fl_ltF, fl_leT, fl_leF, fl_eqT, fl_eqF, decide_true, decide_false, Bool.true_and, Bool.and_true, Bool.false_and, Bool.and_false, if_true, if_false, Bool.false_eq_true, Option.isSome_some, Option.getD_some, not_true_eq_false, not_false_eq_true, Option.toList_some, Option.toList_none, List.cons_append, List.nil_append, fbC_22_39]
  | m + 1, n, k, h, hg, d, hk, hn => by
    have o8 := (fl_o8o (k0 := k0)).1
    have v := fl_gin_v (n := k)
    have v1 := fl_gin_v (n := k + 1)
    have i1 : fl_i h 8 1 = Int32.ofNat k := by have := d.1.2.1; rw [v.1] at this; exact this
    have i2 : fl_i h 8 2 = Int32.ofNat 0 := by have := d.1.2.2.1; rw [v.2.2.1] at this; exact this
    have c0 : ∀ n, n ≤ 12 → fl_cnt (fun k => decide (fl_gin n (4 + k) = 8)) n = 0 := fun n hn => fl_cnt_ff (fun i hi => by rw [fl_gin_z (by omega) (by omega) (by omega)]; rfl)
    have i3 : fl_i h 8 3 = Int32.ofNat 0 := by have := d.1.2.2.2.1; rw [v.1, c0 k (by omega)] at this; exact this
    have ii : fl_i h 8 0 = Int32.ofNat k := by have := d.1.1; rw [v.2.1] at this; exact this
    have i4 : fl_i h 8 4 = Int32.ofNat 0 := by have := d.1.2.2.2.2; rw [v.2.2.2] at this; exact this
    obtain ⟨y, ey, dy, j1, j3, l10, l14, l12, l16⟩ := fc_21 (s := 0) hg i1 (by omega) i2 i3 (by omega) (-Int32.ofNat 1) (-Int32.ofNat 1) 0 (Or.inl ⟨rfl, rfl⟩)
    have gy := fl_df_g hg dy
    have y0 : fl_i y 8 0 = Int32.ofNat k := by rw [(dy.2.2.2 8 0 (by omega)).1]; exact ii
    have d2 : fl_df (fun q j => q = 8 ∧ j = 0) y (fl_wi y 8 (fl_up (fl_i y 8) 0 (Int32.ofNat (k + 1)))) := fl_df_wiu fl_df_rfl ⟨rfl, rfl⟩
    have z0 : fl_i (fl_wi y 8 (fl_up (fl_i y 8) 0 (Int32.ofNat (k + 1)))) 8 0 = Int32.ofNat (k + 1) := by rw [fl_i_wi, if_pos rfl, fl_up_self]
    have zl : fl_l (fl_wi y 8 (fl_up (fl_i y 8) 0 (Int32.ofNat (k + 1)))) = fl_l y := fl_l_wi
    generalize h1e : fl_wi y 8 (fl_up (fl_i y 8) 0 (Int32.ofNat (k + 1))) = z at *
    have gz := fl_df_g gy d2
    have iz : ∀ j, j ≠ 0 → fl_i z 8 j = fl_i y 8 j := fun j hj => (d2.2.2.2 8 j (by omega)).1
    have nz : fl_net z 8 (fl_gin (k + 1)) := by
      refine ⟨⟨by rw [z0, v1.2.1], by rw [iz 1 (by omega), j1, v1.1], by rw [iz 2 (by omega), (dy.2.2.2 8 2 (by omega)).1, i2, v1.2.2.1], by rw [iz 3 (by omega), j3, v1.1, c0 (k + 1) (by omega)]; rfl, by rw [iz 4 (by omega), (dy.2.2.2 8 4 (by omega)).1, i4, v1.2.2.2]⟩, fun i hi => ?_, fun i hi => ?_, fun i hi => ?_, fun i hi => ?_, fun p hp => ?_, fun j hj => ?_⟩
      · rw [v1.1] at hi
        rw [zl, fl_gin_z (by omega) (by omega) (by omega)]
        show fl_l y 10 i = _
        rw [l10]
        by_cases q : i = k
        · rw [q, fl_up_self]
        · rw [fl_up_ne q]
          have := d.2.1 i (by rw [v.1]; omega)
          rw [fl_gin_z (by omega) (by omega) (by omega)] at this
          exact this
      · rw [v1.1] at hi
        rw [zl, fl_gin_z (by omega) (by omega) (by omega)]
        show fl_l y 12 i = _
        rw [l12]
        by_cases q : i = k
        · rw [q, fl_up_self]; rfl
        · rw [fl_up_ne q]
          have := d.2.2.1 i (by rw [v.1]; omega)
          rw [fl_gin_z (by omega) (by omega) (by omega)] at this
          exact this
      · rw [v1.1] at hi
        rw [zl, fl_gin_z (j := 28 + i) (by omega) (by omega) (by omega), if_pos rfl]
        show fl_l y 14 i = _
        rw [l14]
        by_cases q : i = k
        · rw [q, fl_up_self]; decide
        · rw [fl_up_ne q]
          have := d.2.2.2.1 i (by rw [v.1]; omega)
          rw [fl_gin_z (j := 28 + i) (by omega) (by omega) (by omega), if_pos rfl] at this
          exact this
      · rw [v1.1] at hi
        rw [zl, fl_gin_z (j := 4 + i) (by omega) (by omega) (by omega), if_neg (by omega)]
        show fl_l y 16 i = _
        rw [l16]
        by_cases q : i = k
        · rw [q, fl_up_self]; decide
        · rw [fl_up_ne q]
          have := d.2.2.2.2.1 i (by rw [v.1]; omega)
          rw [fl_gin_z (j := 4 + i) (by omega) (by omega) (by omega), if_neg (by omega)] at this
          exact this
      · rw [v1.2.2.1] at hp; omega
      · rw [v1.2.2.2] at hj; omega
    obtain ⟨w, ew, dw, nw⟩ := fc_22l m n (k + 1) z gz nz (by omega) hn
    refine ⟨w, ?_, fl_df_tr (fl_df_mo dy (fun q j z => by omega)) (fl_df_tr (fl_df_mo d2 (fun q j z => by omega)) dw), nw⟩
    clear d dy l10 l12 l14 l16 d2 z0 zl iz nz dw nw c0 v v1
    rw [fbC_22_2]
    simp (disch := omega) only [fl_si_wi, hg.1, gy.1, o8, fl_lit, fl_nadd, fl_nmul, fl_ndiv, fl_nsub, fl_msub, fl_nle, fl_nlt, fl_neq, fl_nclamp, fl_nin, fl_ltT, fl_ltF, fl_leT, fl_leF, fl_eqT, fl_eqF, decide_true, decide_false, Bool.true_and, Bool.and_true, Bool.false_and, Bool.and_false, if_true, if_false, Bool.false_eq_true, Option.isSome_some, Option.getD_some, not_true_eq_false, not_false_eq_true, Option.toList_some, Option.toList_none, List.cons_append, List.nil_append, i1, ey, fbP_22_23, y0, h1e, fbC_22_33, ew]
theorem fc_45 (hg : fl_g k0 h) (iT : fl_iT h tn tx) (c : fl_ck h (0, fl_gin 0)) : ∃ y, fl_cl fl_C 45 [.ref 7, .ref 1] h = some (some none, y) ∧ fl_df fl_Srd h y ∧ fl_crr y (fl_rinp tx tn) := by
  have o7 := fl_o7 (k0 := k0)
  have o8 := (fl_o8o (k0 := k0)).1
  have e3 : fl_i h 7 3 = Int32.ofNat 0 := c.1
  have L1 : fl_i h 8 1 = Int32.ofNat 0 := c.2.2.1.1.2.1
  have e42 := fc_42 hg iT e3 (by omega)
  unfold fl_sgn at e42
  obtain ⟨yN, eN, dN, cN⟩ := fc_44 hg c.2.2.2 e3 (by omega) L1 (by omega) false (k := 3) (n := 0) (by omega) (by omega) (fun _ => rfl)
  rw [Bool.toNat_false] at eN
  unfold fl_rinp
  by_cases q : 0 < tn
  · have t := (iT.2.2.2.2 0 q).1
    rw [if_pos q] at e42
    by_cases q2 : 49 ≤ tx 0 ∧ tx 0 ≤ 52
    · rw [if_pos ⟨q, q2⟩]
      obtain ⟨y, ey, dy, ny⟩ := fc_22l (tx 0 - 48) (tx 0 - 48) 0 h hg c.2.2.1 (by omega) (by omega)
      have e22 : fl_cl fl_C 22 [.ref 8, .int (Int32.ofNat (tx 0 - 48))] h = some (some none, y) := by rw [fbE_22]; exact ey
      have gy := fl_df_g hg dy
      have cy : fl_ck y (0, fl_gin (tx 0 - 48)) := ⟨by rw [(dy.2.2.2 7 3 (by omega)).1]; exact e3, by rw [(dy.2.2.2 7 4 (by omega)).1]; exact c.2.1, ny, fl_cz_df c.2.2.2 dy (fun q j z => by omega)⟩
      have y3 : fl_i y 7 3 = Int32.ofNat 0 := cy.1
      have u := fl_ck_up cy
      refine ⟨_, ?_, fl_df_tr (fl_df_mo dy (fun q j z => by omega)) (fl_df_mo u.1 (fun q j z => by omega)), u.2⟩
      have q3 := q2.1
      have q4 := q2.2
      clear iT c dN cN dy ny cy u ey q2
      generalize tx 0 = T at *
      rw [fbE_45]
      simp (disch := omega) only [fl_si_wi, hg.1, hg.2, gy.1, o7, o8, fl_lit, fl_nadd, fl_nmul, fl_ndiv, fl_nsub, fl_msub, fl_nle, fl_nlt, fl_neq, fl_nclamp, fl_nin, fl_ltT, fl_ltF, fl_leT, fl_leF, fl_eqT, fl_eqF, decide_true, decide_false, Bool.true_and, Bool.and_true, Bool.false_and, Bool.and_false, if_true, if_false, Bool.false_eq_true, Option.isSome_some, Option.getD_some, not_true_eq_false, not_false_eq_true, Option.toList_some, Option.toList_none, List.cons_append, List.nil_append, e42, fbP_45_5, e22, fbP_45_40, y3]
    · rw [if_neg (fun z => q2 z.2)]
      refine ⟨yN, ?_, dN, cN⟩
      clear iT c dN cN
      generalize tx 0 = T at *
      by_cases q3 : T < 49
      · rw [fbE_45]
        simp (disch := omega) only [hg.1, o7, fl_lit, fl_nadd, fl_nmul, fl_ndiv, fl_nsub, fl_msub, fl_nle, fl_nlt, fl_neq, fl_nclamp, fl_nin, fl_ltT, fl_ltF, fl_leT, fl_leF, fl_eqT, fl_eqF, decide_true, decide_false, Bool.true_and, Bool.and_true, Bool.false_and, Bool.and_false, if_true, if_false, Bool.false_eq_true, Option.isSome_some, Option.getD_some, not_true_eq_false, not_false_eq_true, Option.toList_some, Option.toList_none, List.cons_append, List.nil_append, e42, fbP_45_5, fbC_45_18, e3, eN, fbP_45_28]
      · have q4 : 52 < T := by omega
        rw [fbE_45]
        simp (disch := omega) only [hg.1, o7, fl_lit, fl_nadd, fl_nmul, fl_ndiv, fl_nsub, fl_msub, fl_nle, fl_nlt, fl_neq, fl_nclamp, fl_nin, fl_ltT, fl_ltF, fl_leT, fl_leF, fl_eqT, fl_eqF, decide_true, decide_false, Bool.true_and, Bool.and_true, Bool.false_and, Bool.and_false, if_true, if_false, Bool.false_eq_true, Option.isSome_some, Option.getD_some, not_true_eq_false, not_false_eq_true, Option.toList_some, Option.toList_none, List.cons_append, List.nil_append, e42, fbP_45_5, fbC_45_18, e3, eN, fbP_45_28]
  · rw [if_neg q] at e42
    rw [if_neg (fun z => q z.1)]
    refine ⟨yN, ?_, dN, cN⟩
    have mm : (-Int32.ofNat 1 < Int32.ofNat 49) = True := eq_true (by decide)
    clear iT c dN cN
    rw [fbE_45]
    simp (disch := omega) only [hg.1, o7, fl_lit, fl_nadd, fl_nmul, fl_ndiv, fl_nsub, fl_msub, fl_nle, fl_nlt, fl_neq, fl_nclamp, fl_nin, fl_ltT, fl_ltF, fl_leT, fl_leF, fl_eqT, fl_eqF, decide_true, decide_false, Bool.true_and, Bool.and_true, Bool.false_and, Bool.and_false, if_true, if_false, Bool.false_eq_true, Option.isSome_some, Option.getD_some, not_true_eq_false, not_false_eq_true, Option.toList_some, Option.toList_none, List.cons_append, List.nil_append, e42, fbP_45_5, mm, fbC_45_18, e3, eN, fbP_45_28]
/-- registers asked -/
theorem fc_65o (hg : fl_g k0 h) (I : fl_RO g) (d : fl_net h 8 g) {k : Nat} (hk : k < g 0) : fl_cl fl_C 65 [.ref 8, .int (Int32.ofNat k)] h = some (some (some (.int (if g (4 + k) = 8 then Int32.ofNat 1 else Int32.ofNat 0))), h) := by
  have o8 := fl_o8o (k0 := k0)
  have c9 := (fl_o8c (k0 := k0)).1
  have p := I.1.1
  have b := I.2.1.1 (4 + k) (by omega)
  have i1 := d.1.2.1
  have e24 := fc_int c9 hg (show k < 12 by omega)
  have v : fl_l h 10 k = Int64.ofNat (g (4 + k)) := d.2.1 k hk
  rw [v, fl_o32] at e24
  have c1 := c9.1
  have e64 : fl_cl fl_C 64 [.ref 8, .int (Int32.ofNat k)] h = some (some (some (.int (Int32.ofNat 1))), h) := by
    clear I d v c9 e24
    rw [fbE_64]
    simp (disch := omega) only [hg.1, o8, fl_lit, fl_nadd, fl_nmul, fl_ndiv, fl_nsub, fl_msub, fl_nle, fl_nlt, fl_neq, fl_nclamp, fl_nin, fl_ltT, fl_ltF, fl_leT, fl_leF, fl_eqT, fl_eqF, decide_true, decide_false, Bool.true_and, Bool.and_true, Bool.false_and, Bool.and_false, if_true, if_false, Bool.false_eq_true, Option.isSome_some, Option.getD_some, not_true_eq_false, not_false_eq_true, Option.toList_some, Option.toList_none, List.cons_append, List.nil_append, i1]
  clear I d v c9
  generalize g (4 + k) = S at *
  by_cases q : S = 8
  · rw [if_pos q, fbE_65]
    simp (disch := omega) only [hg.1, hg.2, o8, c1, fl_lit, fl_nadd, fl_nmul, fl_ndiv, fl_nsub, fl_msub, fl_nle, fl_nlt, fl_neq, fl_nclamp, fl_nin, fl_ltT, fl_ltF, fl_leT, fl_leF, fl_eqT, fl_eqF, decide_true, decide_false, Bool.true_and, Bool.and_true, Bool.false_and, Bool.and_false, if_true, if_false, Bool.false_eq_true, Option.isSome_some, Option.getD_some, not_true_eq_false, not_false_eq_true, Option.toList_some, Option.toList_none, List.cons_append, List.nil_append, e64, fbP_65_5, e24, fbP_65_16, fbC_65_25]
  · rw [if_neg q, fbE_65]
    simp (disch := omega) only [hg.1, hg.2, o8, c1, fl_lit, fl_nadd, fl_nmul, fl_ndiv, fl_nsub, fl_msub, fl_nle, fl_nlt, fl_neq, fl_nclamp, fl_nin, fl_ltT, fl_ltF, fl_leT, fl_leF, fl_eqT, fl_eqF, decide_true, decide_false, Bool.true_and, Bool.and_true, Bool.false_and, Bool.and_false, if_true, if_false, Bool.false_eq_true, Option.isSome_some, Option.getD_some, not_true_eq_false, not_false_eq_true, Option.toList_some, Option.toList_none, List.cons_append, List.nil_append, e64, fbP_65_5, e24, fbP_65_16, fbC_65_25]
/-- what is told of a register that reads too far -/
def fl_toofar (g : Nat → Nat) : List (Nat × Nat) := [(1, g 0), (2, fl_frst (fl_far g) (g 0)), (5, g (52 + g (16 + fl_frst (fl_far g) (g 0))))]
theorem fc_67 (hg : fl_g k0 h) (I : fl_RO g) (d : fl_net h 8 g) (z : fl_cz h []) : ∃ y, fl_df fl_Srd h y ∧ (if fl_any (fl_far g) (g 0) = true then fl_cl fl_C 67 [.ref 7] h = some (some (some (.int (-Int32.ofNat 200))), y) ∧ fl_cz y (fl_toofar g) else fl_cl fl_C 67 [.ref 7] h = some (some (some (.int (Int32.ofNat (2 * (g 0 + g 2))))), h) ∧ y = h) := by
  have o7 := fl_o7 (k0 := k0)
  have o8 := fl_o8o (k0 := k0)
  have K := fl_o8c (k0 := k0)
  have c13 := K.2.2.1.1
  have c17 := K.2.2.2.2.1.1
  have p := I.1.1
  have i1 := d.1.2.1
  have i2 := d.1.2.2.1
  have lp := fl_findN (fun k => fl_Rn fl_C 67 2 [some (.ref 7), some (.int (Int32.ofNat k))] [] h) (fun k => fl_ca fl_C 67 43 [some (.ref 7), some (.int (Int32.ofNat k)), some (.int (Int32.ofNat (g (52 + g (16 + k)))))] [] [] (some (some (some (.int (Int32.ofNat 1))), h))) (fl_far g) (g 0) (fun k hk => by
    have e65 := fc_65o hg I d hk
    have e24 := fc_int K.2.2.1 hg (show k < 12 by omega)
    have v : fl_l h 14 k = if g (28 + k) = 0 then -1 else Int64.ofNat (g (16 + k)) := d.2.2.2.1 k hk
    rw [v] at e24
    by_cases s8 : g (4 + k) = 8
    · rw [if_pos s8] at e65
      have k1 : g 1 ≤ k := by
        by_cases l : k < g 1
        · have := (I.1.2.1 k l).1; omega
        · omega
      have gk := I.1.2.2.1 k k1 hk
      rw [if_neg (by omega), fl_o32] at e24
      have e24b := fc_int K.2.2.2.2.1 hg (show g (16 + k) < 20 by omega)
      have vb : fl_l h 18 (g (16 + k)) = Int64.ofNat (g (52 + g (16 + k))) := d.2.2.2.2.2.1 _ (by omega)
      rw [vb, fl_o32] at e24b
      have l12 := I.1.2.2.2.2.1 (g (16 + k)) (by omega)
      have go : fl_Rn fl_C 67 2 [some (.ref 7), some (.int (Int32.ofNat k))] [] h = fl_ca fl_C 67 43 [some (.ref 7), some (.int (Int32.ofNat k)), some (.int (Int32.ofNat (g (52 + g (16 + k)))))] [] [] (some (some (some (.int (Int32.ofNat 1))), h)) := by
        clear I d v vb K gk
        generalize g (52 + g (16 + k)) = V at *
        generalize g (16 + k) = F at *
        rw [fbC_67_2]
        simp (disch := omega) only [hg.1, hg.2, o7, o8, c13, c17, fl_lit, fl_nadd, fl_nmul, fl_ndiv, fl_nsub, fl_msub, fl_nle, fl_nlt, fl_neq, fl_nclamp, fl_nin, fl_ltT, fl_ltF, fl_leT, fl_leF, fl_eqT, fl_eqF, decide_true, decide_false, Bool.true_and, Bool.and_true, Bool.false_and, Bool.and_false, if_true, if_false, Bool.false_eq_true, Option.isSome_some, Option.getD_some, not_true_eq_false, not_false_eq_true, Option.toList_some, Option.toList_none, List.cons_append, List.nil_append, i1, e24, fbP_67_31, e24b, fbP_67_34, e65]
      by_cases f : g 0 ≤ g (52 + g (16 + k))
      · rw [if_pos (by unfold fl_far; rw [decide_eq_true s8, decide_eq_true f]; rfl)]
        exact go
      · rw [if_neg (by unfold fl_far; rw [decide_eq_true s8, decide_eq_false f]; decide), go]
        clear I d v vb K gk go e24b e24 e65
        generalize g (52 + g (16 + k)) = V at *
        rw [fbP_67_43]
        simp (disch := omega) only [hg.1, hg.2, o7, o8, fl_lit, fl_nadd, fl_nmul, fl_ndiv, fl_nsub, fl_msub, fl_nle, fl_nlt, fl_neq, fl_nclamp, fl_nin, fl_ltT, fl_ltF, fl_leT, fl_leF, fl_eqT, fl_eqF, decide_true, decide_false, Bool.true_and, Bool.and_true, Bool.false_and, Bool.and_false, if_true, if_false, Bool.false_eq_true, Option.isSome_some, Option.getD_some, not_true_eq_false, not_false_eq_true, Option.toList_some, Option.toList_none, List.cons_append, List.nil_append, i1, fbC_67_85]
    · rw [if_neg s8] at e65
      rw [if_neg (by unfold fl_far; rw [decide_eq_false s8, Bool.false_and]; decide)]
      have e24b := fun i => fl_cells_int K.2.2.2.2.1 hg i
      clear I d v K
      rw [fbC_67_2]
      simp (disch := omega) only [hg.1, hg.2, o7, o8, c13, c17, fl_lit, fl_nadd, fl_nmul, fl_ndiv, fl_nsub, fl_msub, fl_nle, fl_nlt, fl_neq, fl_nclamp, fl_nin, fl_ltT, fl_ltF, fl_leT, fl_leF, fl_eqT, fl_eqF, decide_true, decide_false, Bool.true_and, Bool.and_true, Bool.false_and, Bool.and_false, if_true, if_false, Bool.false_eq_true, Option.isSome_some, Option.getD_some, not_true_eq_false, not_false_eq_true, Option.toList_some, Option.toList_none, List.cons_append, List.nil_append, i1, e24, fbP_67_31, e24b, fbP_67_34, e65, fbP_67_43, fbC_67_85])
  have en : fl_Rn fl_C 67 2 [some (.ref 7), some (.int (Int32.ofNat (g 0)))] [] h = some (some (some (.int (Int32.ofNat (2 * (g 0 + g 2))))), h) := by
    clear I d K lp
    rw [fbC_67_2]
    simp (disch := omega) only [hg.1, hg.2, o7, o8, fl_lit, fl_nadd, fl_nmul, fl_ndiv, fl_nsub, fl_msub, fl_nle, fl_nlt, fl_neq, fl_nclamp, fl_nin, fl_ltT, fl_ltF, fl_leT, fl_leF, fl_eqT, fl_eqF, decide_true, decide_false, Bool.true_and, Bool.and_true, Bool.false_and, Bool.and_false, if_true, if_false, Bool.false_eq_true, Option.isSome_some, Option.getD_some, not_true_eq_false, not_false_eq_true, Option.toList_some, Option.toList_none, List.cons_append, List.nil_append, i1, i2, fbE_66, fbP_67_98]
  by_cases q : fl_any (fl_far g) (g 0) = true
  · rw [if_pos q] at lp
    have sp := fl_frst_sp q
    have s8 : g (4 + fl_frst (fl_far g) (g 0)) = 8 := by
      have := sp.2.1
      unfold fl_far at this
      rw [Bool.and_eq_true] at this
      exact of_decide_eq_true this.1
    have fr : g 0 ≤ g (52 + g (16 + fl_frst (fl_far g) (g 0))) := by
      have := sp.2.1
      unfold fl_far at this
      rw [Bool.and_eq_true] at this
      exact of_decide_eq_true this.2
    have k1 : g 1 ≤ fl_frst (fl_far g) (g 0) := by
      by_cases l : fl_frst (fl_far g) (g 0) < g 1
      · have := (I.1.2.1 _ l).1; omega
      · omega
    have gk := I.1.2.2.1 _ k1 sp.1
    have l12 := I.1.2.2.2.2.1 (g (16 + fl_frst (fl_far g) (g 0))) (by omega)
    obtain ⟨h1, e1, d1, z1⟩ := fc_43 hg z (by decide) 1 (g 0) (by omega) (by omega)
    have g1 := fl_df_g hg d1
    obtain ⟨h2, e2, d2, z2⟩ := fc_43 g1 z1 (show 1 < 4 by decide) 2 (fl_frst (fl_far g) (g 0)) (by omega) (by omega)
    have g2 := fl_df_g g1 d2
    obtain ⟨h3, e3, d3, z3⟩ := fc_43 g2 z2 (show 2 < 4 by decide) 5 (g (52 + g (16 + fl_frst (fl_far g) (g 0)))) (by omega) (by omega)
    refine ⟨h3, fl_df_tr (fl_df_mo d1 (fun q j z => by omega)) (fl_df_tr (fl_df_mo d2 (fun q j z => by omega)) (fl_df_mo d3 (fun q j z => by omega))), ?_⟩
    rw [if_pos q]
    refine ⟨?_, z3⟩
    rw [fbE_67]
    refine lp.trans ?_
    have sl := sp.1
    clear I d K lp en z d1 z1 d2 z2 d3 z3 gk sp s8
    generalize g (52 + g (16 + fl_frst (fl_far g) (g 0))) = V at *
    generalize fl_frst (fl_far g) (g 0) = F at *
    rw [fbP_67_43]
    simp (disch := omega) only [hg.1, hg.2, g1.1, g2.1, o7, o8, fl_lit, fl_nadd, fl_nmul, fl_ndiv, fl_nsub, fl_msub, fl_nle, fl_nlt, fl_neq, fl_nclamp, fl_nin, fl_ltT, fl_ltF, fl_leT, fl_leF, fl_eqT, fl_eqF, decide_true, decide_false, Bool.true_and, Bool.and_true, Bool.false_and, Bool.and_false, if_true, if_false, Bool.false_eq_true, Option.isSome_some, Option.getD_some, not_true_eq_false, not_false_eq_true, Option.toList_some, Option.toList_none, List.cons_append, List.nil_append, i1, e1, fbP_67_69, e2, fbP_67_75, e3, fbP_67_81]
  · rw [if_neg q] at lp
    refine ⟨h, fl_df_rfl, ?_⟩
    rw [if_neg q]
    refine ⟨?_, rfl⟩
    rw [fbE_67]
    exact lp.trans en
end
