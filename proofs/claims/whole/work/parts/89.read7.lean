/-! THE READER of the class: outputs -/
section
variable {k0 : Nat → Nat × Nat} {i0 : Nat → Nat → Int32} {h : fl_H} {g tx : Nat → Nat} {tn a : Nat} {P : fl_Ps} {r : fl_Ps ⊕ fl_Fa}
theorem fc_61o (hg : fl_g k0 h) (I : fl_RO g) (d : fl_net h 8 g) {k : Nat} (hk : k < 256) : fl_cl fl_C 61 [.ref 8, .int (Int32.ofNat k)] h = some (some (some (.int (if fl_isO g k = true then Int32.ofNat 1 else Int32.ofNat 0))), h) := by
  have o8 := fl_o8o (k0 := k0)
  have c19 := (fl_o8c (k0 := k0)).2.2.2.2.2
  have g3 := I.2.2.1
  have i4 := d.1.2.2.2.2
  have c1 := c19.1
  have lp := fl_find (fun j => fl_Rn fl_C 61 2 [some (.ref 8), some (.int (Int32.ofNat k)), some (.int (Int32.ofNat j))] [] h) (some (some (some (.int (Int32.ofNat 1))), h)) (fun j => decide (g (72 + j) = k)) (g 3) (fun j hj => by
    have b := I.2.1.1 (72 + j) (by omega)
    have e24 := fc_int c19 hg (show j < 4 by omega)
    have v : fl_l h 20 j = Int64.ofNat (g (72 + j)) := d.2.2.2.2.2.2 j hj
    rw [v, fl_o32] at e24
    clear I d v c19
    generalize g (72 + j) = V at *
    by_cases q : V = k
    · rw [if_pos (decide_eq_true q), fbC_61_2]
      simp (disch := omega) only [hg.1, hg.2, o8, c1, fl_lit, fl_nadd, fl_nmul, fl_ndiv, fl_nsub, fl_msub, fl_nle, fl_nlt, fl_neq, fl_nclamp, fl_nin, fl_ltT, fl_ltF, fl_leT, fl_leF, fl_eqT, fl_eqF, decide_true, decide_false, Bool.true_and, Bool.and_true, Bool.false_and, Bool.and_false, if_true, if_false, Bool.false_eq_true, Option.isSome_some, Option.getD_some, not_true_eq_false, not_false_eq_true, Option.toList_some, Option.toList_none, List.cons_append, List.nil_append, i4, e24, fbP_61_18]
    · rw [if_neg (by rw [decide_eq_false q]; decide), fbC_61_2]
      simp (disch := omega) only [hg.1, hg.2, o8, c1, fl_lit, fl_nadd, fl_nmul, fl_ndiv, fl_nsub, fl_msub, fl_nle, fl_nlt, fl_neq, fl_nclamp, fl_nin, fl_ltT, fl_ltF, fl_leT, fl_leF, fl_eqT, fl_eqF, decide_true, decide_false, Bool.true_and, Bool.and_true, Bool.false_and, Bool.and_false, if_true, if_false, Bool.false_eq_true, Option.isSome_some, Option.getD_some, not_true_eq_false, not_false_eq_true, Option.toList_some, Option.toList_none, List.cons_append, List.nil_append, i4, e24, fbP_61_18])
  have en : fl_Rn fl_C 61 2 [some (.ref 8), some (.int (Int32.ofNat k)), some (.int (Int32.ofNat (g 3)))] [] h = some (some (some (.int (Int32.ofNat 0))), h) := by
    clear I d lp c19
    rw [fbC_61_2]
    simp (disch := omega) only [hg.1, hg.2, o8, fl_lit, fl_nadd, fl_nmul, fl_ndiv, fl_nsub, fl_msub, fl_nle, fl_nlt, fl_neq, fl_nclamp, fl_nin, fl_ltT, fl_ltF, fl_leT, fl_leF, fl_eqT, fl_eqF, decide_true, decide_false, Bool.true_and, Bool.and_true, Bool.false_and, Bool.and_false, if_true, if_false, Bool.false_eq_true, Option.isSome_some, Option.getD_some, not_true_eq_false, not_false_eq_true, Option.toList_some, Option.toList_none, List.cons_append, List.nil_append, i4]
  rw [fbE_61]
  refine lp.trans ?_
  unfold fl_isO
  split
  · rfl
  · exact en
theorem fc_23 (hg : fl_g k0 h) (I : fl_RO g) (d : fl_net h 8 g) (h4 : g 3 < 4) {k : Nat} (hk : k < 12) : ∃ y, fl_cl fl_C 23 [.ref 8, .int (Int32.ofNat k)] h = some (some none, y) ∧ fl_df (fun q j => (q = 8 ∧ j = 4) ∨ q = 20) h y ∧ fl_net y 8 (fl_gq g k) := by
  have o := fl_o8o (k0 := k0)
  have c := (fl_o8c (k0 := k0)).2.2.2.2.2
  have i4 := d.1.2.2.2.2
  have p := I.1.1
  obtain ⟨y, ey, dy, ly⟩ := fc_putX c hg h4 (Int32.toInt64 (Int32.ofNat k))
  have gy := fl_df_g hg dy
  have y4 : fl_i y 8 4 = Int32.ofNat (g 3) := by rw [(dy.2.2.2 8 4 (by omega)).1]; exact i4
  have d2 : fl_df (fun q j => (q = 8 ∧ j = 4) ∨ q = 20) h (fl_wi y 8 (fl_up (fl_i y 8) 4 (Int32.ofNat (g 3 + 1)))) := fl_df_wiu (fl_df_mo dy (fun q j z => Or.inr z.1)) (Or.inl ⟨rfl, rfl⟩)
  have z4 : fl_i (fl_wi y 8 (fl_up (fl_i y 8) 4 (Int32.ofNat (g 3 + 1)))) 8 4 = Int32.ofNat (g 3 + 1) := by rw [fl_i_wi, if_pos rfl, fl_up_self]
  have zl : fl_l (fl_wi y 8 (fl_up (fl_i y 8) 4 (Int32.ofNat (g 3 + 1)))) 20 = fl_up (fl_l h 20) (g 3) (Int32.toInt64 (Int32.ofNat k)) := by rw [fl_l_wi]; exact ly
  have st : fl_cl fl_C 23 [.ref 8, .int (Int32.ofNat k)] h = some (some none, fl_wi y 8 (fl_up (fl_i y 8) 4 (Int32.ofNat (g 3 + 1)))) := by
    have c1 := c.1
    clear d I c dy ly d2 z4 zl
    rw [fbE_23]
    simp (disch := omega) only [fl_si_wi, hg.1, hg.2, gy.1, gy.2, o, c1, fl_lit, fl_nadd, fl_nmul, fl_ndiv, fl_nsub, fl_msub, fl_nle, fl_nlt, fl_neq, fl_nclamp, fl_nin, fl_ltT, fl_ltF, fl_leT, fl_leF, fl_eqT, fl_eqF, decide_true, decide_false, Bool.true_and, Bool.and_true, Bool.false_and, Bool.and_false, if_true, if_false, Bool.false_eq_true, Option.isSome_some, Option.getD_some, not_true_eq_false, not_false_eq_true, Option.toList_some, Option.toList_none, List.cons_append, List.nil_append, i4, ey, fbP_23_13, y4]
  generalize fl_wi y 8 (fl_up (fl_i y 8) 4 (Int32.ofNat (g 3 + 1))) = z at *
  refine ⟨z, st, d2, ?_⟩
  have at' := fl_gq_at (g := g) (k := k)
  have e0 : fl_gq g k 0 = g 0 := fl_gq_ne (by omega)
  have e2 : fl_gq g k 2 = g 2 := fl_gq_ne (by omega)
  have iz : ∀ j, j ≠ 4 → fl_i z 8 j = fl_i h 8 j := fun j hj => (d2.2.2.2 8 j (by omega)).1
  have lz : ∀ q, q ≠ 20 ∧ q ≠ 8 → fl_l z q = fl_l h q := fun q hq => fl_df_l d2 (fun j => by omega)
  refine ⟨⟨?_, ?_, ?_, ?_, ?_⟩, fun k' hk' => ?_, fun k' hk' => ?_, fun k' hk' => ?_, fun k' hk' => ?_, fun p hp => ?_, fun j hj => ?_⟩
  · rw [iz 0 (by omega), fl_gq_ne (by omega)]; exact d.1.1
  · rw [iz 1 (by omega), e0]; exact d.1.2.1
  · rw [iz 2 (by omega), e2]; exact d.1.2.2.1
  · rw [iz 3 (by omega), e0, fl_cnt_congr (q' := fun k => decide (g (4 + k) = 8)) (fun i hi => by rw [fl_gq_ne (by omega)])]
    exact d.1.2.2.2.1
  · rw [z4, at'.2]
  · rw [e0] at hk'
    rw [lz _ (by omega), fl_gq_ne (by omega)]; exact d.2.1 k' hk'
  · rw [e0] at hk'
    rw [lz _ (by omega), fl_gq_ne (by omega)]; exact d.2.2.1 k' hk'
  · rw [e0] at hk'
    rw [lz _ (by omega), fl_gq_ne (by omega), fl_gq_ne (by omega)]; exact d.2.2.2.1 k' hk'
  · rw [e0] at hk'
    rw [lz _ (by omega), fl_gq_ne (by omega), fl_gq_ne (by omega)]; exact d.2.2.2.2.1 k' hk'
  · rw [e2] at hp
    rw [lz _ (by omega), fl_gq_ne (by omega)]; exact d.2.2.2.2.2.1 p hp
  · rw [at'.2] at hj
    show fl_l z 20 j = _
    rw [zl]
    by_cases q : j = g 3
    · subst q
      rw [fl_up_self, at'.1, fl_i64 (by omega)]
    · rw [fl_up_ne q, fl_gq_ne (by omega)]
      exact d.2.2.2.2.2.2 j (by omega)
theorem fc_62 (hg : fl_g k0 h) (iT : fl_iT h tn tx) (c : fl_ck h P) (I : fl_RO P.2) (ha : P.1 < 900) : ∃ y, fl_cl fl_C 62 [.ref 7, .ref 1] h = some (some none, y) ∧ fl_df fl_Srd h y ∧ fl_crr y (fl_rout tx tn P) := by
  have o7 := fl_o7 (k0 := k0)
  have o8 := (fl_o8o (k0 := k0)).1
  have e3 := c.1
  have e56 := fc_56 hg iT e3 (by omega)
  have L1 := c.2.2.1.1.2.1
  have O4 := c.2.2.1.1.2.2.2.2
  have p := I.1.1
  have g3 := I.2.2.1
  have ll := fl_ltr_le (tx := tx) (tn := tn) (a := P.1)
  have m1 : (-Int32.ofNat 1 = -Int32.ofNat 1) = True := eq_self _
  unfold fl_rout
  generalize fl_ltr tx tn P.1 = k at *
  by_cases k12 : k = 12
  · rw [if_pos k12] at e56 ⊢
    obtain ⟨y, ey, dy, cy⟩ := fc_44 hg c.2.2.2 e3 (by omega) L1 (by omega) false (k := 3) (n := P.1) (by omega) (by omega) (fun _ => rfl)
    refine ⟨y, ?_, dy, ?_⟩
    · rw [Bool.toNat_false] at ey
      clear iT c I dy cy
      rw [fbE_62]
      simp (disch := omega) only [hg.1, hg.2, o7, fl_lit, fl_nadd, fl_nmul, fl_ndiv, fl_nsub, fl_msub, fl_nle, fl_nlt, fl_neq, fl_nclamp, fl_nin, fl_ltT, fl_ltF, fl_leT, fl_leF, fl_eqT, fl_eqF, decide_true, decide_false, Bool.true_and, Bool.and_true, Bool.false_and, Bool.and_false, if_true, if_false, Bool.false_eq_true, Option.isSome_some, Option.getD_some, not_true_eq_false, not_false_eq_true, Option.toList_some, Option.toList_none, List.cons_append, List.nil_append, e56, fbP_62_5, e3, ey, fbP_62_21, fbC_62_98]
    · show fl_cf y _
      have : fl_why (P.2 0) false 3 0 P.1 = fl_why (P.2 0) false 3 P.1 P.1 := rfl
      rw [this]; exact cy
  · rw [if_neg k12] at e56 ⊢
    have nm : (Int32.ofNat k = -Int32.ofNat 1) = False := fl_neg1 (by omega)
    have e61 := fc_61o hg I c.2.2.1 (k := k) (by omega)
    by_cases kb : P.2 0 ≤ k ∨ fl_isO P.2 k = true
    · rw [if_pos kb]
      obtain ⟨y, ey, dy, cy⟩ := fc_44 hg c.2.2.2 e3 (by omega) L1 (by omega) false (k := 5) (n := k) (by omega) (by omega) (fun z => absurd rfl z)
      refine ⟨y, ?_, dy, cy⟩
      rw [Bool.toNat_false] at ey
      clear iT c I dy cy
      by_cases kl : P.2 0 ≤ k
      · rw [fbE_62]
        simp (disch := omega) only [hg.1, hg.2, o7, o8, fl_lit, fl_nadd, fl_nmul, fl_ndiv, fl_nsub, fl_msub, fl_nle, fl_nlt, fl_neq, fl_nclamp, fl_nin, fl_ltT, fl_ltF, fl_leT, fl_leF, fl_eqT, fl_eqF, decide_true, decide_false, Bool.true_and, Bool.and_true, Bool.false_and, Bool.and_false, if_true, if_false, Bool.false_eq_true, Option.isSome_some, Option.getD_some, not_true_eq_false, not_false_eq_true, Option.toList_some, Option.toList_none, List.cons_append, List.nil_append, e56, fbP_62_5, nm, L1, fbC_62_46, ey, fbP_62_53, fbC_62_98]
      · have ko : fl_isO P.2 k = true := kb.resolve_left kl
        rw [if_pos ko] at e61
        rw [fbE_62]
        simp (disch := omega) only [hg.1, hg.2, o7, o8, fl_lit, fl_nadd, fl_nmul, fl_ndiv, fl_nsub, fl_msub, fl_nle, fl_nlt, fl_neq, fl_nclamp, fl_nin, fl_ltT, fl_ltF, fl_leT, fl_leF, fl_eqT, fl_eqF, decide_true, decide_false, Bool.true_and, Bool.and_true, Bool.false_and, Bool.and_false, if_true, if_false, Bool.false_eq_true, Option.isSome_some, Option.getD_some, not_true_eq_false, not_false_eq_true, Option.toList_some, Option.toList_none, List.cons_append, List.nil_append, e56, fbP_62_5, nm, L1, e61, fbP_62_43, fbC_62_46, ey, fbP_62_53, fbC_62_98]
    · rw [if_neg kb]
      rw [if_neg (fun z => kb (Or.inr z))] at e61
      have kl : k < P.2 0 := by
        by_cases z : k < P.2 0
        · exact z
        · exact absurd (Or.inl (by omega)) kb
      clear kb
      by_cases k4 : P.2 3 = 4
      · rw [if_pos k4]
        obtain ⟨y, ey, dy, cy⟩ := fc_44 hg c.2.2.2 e3 (by omega) L1 (by omega) false (k := 4) (n := P.1) (by omega) (by omega) (fun _ => rfl)
        refine ⟨y, ?_, dy, ?_⟩
        · rw [Bool.toNat_false] at ey
          clear iT c I dy cy
          rw [fbE_62]
          simp (disch := omega) only [hg.1, hg.2, o7, o8, fl_lit, fl_nadd, fl_nmul, fl_ndiv, fl_nsub, fl_msub, fl_nle, fl_nlt, fl_neq, fl_nclamp, fl_nin, fl_ltT, fl_ltF, fl_leT, fl_leF, fl_eqT, fl_eqF, decide_true, decide_false, Bool.true_and, Bool.and_true, Bool.false_and, Bool.and_false, if_true, if_false, Bool.false_eq_true, Option.isSome_some, Option.getD_some, not_true_eq_false, not_false_eq_true, Option.toList_some, Option.toList_none, List.cons_append, List.nil_append, e56, fbP_62_5, nm, L1, e61, fbP_62_43, O4, e3, ey, fbP_62_77, fbC_62_98]
        · show fl_cf y _
          have : fl_why (P.2 0) false 4 0 P.1 = fl_why (P.2 0) false 4 P.1 P.1 := rfl
          rw [this]; exact cy
      · rw [if_neg k4]
        obtain ⟨y, ey, dy, ny⟩ := fc_23 hg I c.2.2.1 (by omega) (k := k) (by omega)
        have gy := fl_df_g hg dy
        have cy : fl_ck y (P.1, fl_gq P.2 k) := ⟨by rw [(dy.2.2.2 7 3 (by omega)).1]; exact e3, by rw [(dy.2.2.2 7 4 (by omega)).1]; exact c.2.1, ny, fl_cz_df c.2.2.2 dy (fun q j z => by omega)⟩
        have y3 := cy.1
        have u := fl_ck_up cy
        refine ⟨_, ?_, fl_df_tr (fl_df_mo dy (fun q j z => by omega)) (fl_df_mo u.1 (fun q j z => by omega)), u.2⟩
        clear iT c I dy ny cy u
        dsimp only at y3
        rw [fbE_62]
        simp (disch := omega) only [fl_si_wi, hg.1, hg.2, gy.1, o7, o8, fl_lit, fl_nadd, fl_nmul, fl_ndiv, fl_nsub, fl_msub, fl_nle, fl_nlt, fl_neq, fl_nclamp, fl_nin, fl_ltT, fl_ltF, fl_leT, fl_leF, fl_eqT, fl_eqF, decide_true, decide_false, Bool.true_and, Bool.and_true, Bool.false_and, Bool.and_false, if_true, if_false, Bool.false_eq_true, Option.isSome_some, Option.getD_some, not_true_eq_false, not_false_eq_true, Option.toList_some, Option.toList_none, List.cons_append, List.nil_append, e56, fbP_62_5, nm, L1, e61, fbP_62_43, O4, ey, fbP_62_88, y3, fbC_62_98]
/-- outputs, as many as there are -/
theorem fc_63l : ∀ n (r : fl_Ps ⊕ fl_Fa) (h : fl_H), n ≤ 80 → fl_g k0 h → fl_iT h tn tx → fl_crr h r → (∀ P, r = .inl P → fl_RO P.2 ∧ P.1 ≤ tn) → ∃ y, fl_Rn fl_C 63 38 [some (.ref 7), some (.ref 1), some (.int (Int32.ofNat (80 - n)))] [] h = some (some none, y) ∧ fl_df fl_Srd h y ∧ fl_crr y (fl_bnd r (fl_routs tx tn n))
  | 0, r, h, hn, hg, iT, c, ok => by
    refine ⟨h, ?_, fl_df_rfl, ?_⟩
    · clear iT c ok
      rw [fbC_63_38]
      simp (disch := omega) only [fl_lit, fl_nadd, fl_nmul, fl_ndiv, fl_nsub, fl_msub, fl_nle, fl_nlt, fl_neq, fl_nclamp, fl_nin, fl_ltT, fl_ltF, fl_leT, fl_leF, fl_eqT, fl_eqF, decide_true, decide_false, Bool.true_and, Bool.and_true, Bool.false_and, Bool.and_false, if_true, if_false, Bool.false_eq_true, Option.isSome_some, Option.getD_some, not_true_eq_false, not_false_eq_true, Option.toList_some, Option.toList_none, List.cons_append, List.nil_append, fbC_63_73]
    · cases r with
      | inl P => exact c
      | inr e => exact c
  | n + 1, .inr e, h, hn, hg, iT, c, ok => by
    have o7 := (fl_o7 (k0 := k0)).1
    have i4 : fl_i h 7 4 = Int32.ofNat 1 := c.2.1
    refine ⟨h, ?_, fl_df_rfl, c⟩
    clear iT c ok
    rw [fbC_63_38]
    simp (disch := omega) only [hg.1, o7, fl_lit, fl_nadd, fl_nmul, fl_ndiv, fl_nsub, fl_msub, fl_nle, fl_nlt, fl_neq, fl_nclamp, fl_nin, fl_ltT, fl_ltF, fl_leT, fl_leF, fl_eqT, fl_eqF, decide_true, decide_false, Bool.true_and, Bool.and_true, Bool.false_and, Bool.and_false, if_true, if_false, Bool.false_eq_true, Option.isSome_some, Option.getD_some, not_true_eq_false, not_false_eq_true, Option.toList_some, Option.toList_none, List.cons_append, List.nil_append, i4, fbC_63_73]
  | n + 1, .inl P, h, hn, hg, iT, c, ok => by
    have o7 := (fl_o7 (k0 := k0)).1
    have o1 := (fl_o1 (k0 := k0)).1
    have cP : fl_ck h P := c
    have i4 : fl_i h 7 4 = Int32.ofNat 0 := cP.2.1
    have e3 := cP.1
    have t80 := iT.1
    obtain ⟨I, pt⟩ := ok P rfl
    have e31 := fc_31 hg iT
    have eb : fl_bnd (.inl P) (fl_routs tx tn (n + 1)) = if P.1 < tn then fl_bnd (fl_rout tx tn P) (fl_routs tx tn n) else .inl P := rfl
    rw [eb]
    have hm : 80 - (n + 1) < 80 := by omega
    by_cases q : P.1 < tn
    · rw [if_pos q]
      obtain ⟨y, ey, dy, cy⟩ := fc_62 hg iT cP I (by omega)
      obtain ⟨z, ez, dz, cz⟩ := fc_63l n _ y (by omega) (fl_df_g hg dy) (fl_iT_df iT dy (fun q j z => by omega)) cy (fun P' e => by
        have k := fl_rout_ok e I
        exact ⟨k.1, by omega⟩)
      refine ⟨z, ?_, fl_df_tr dy dz, cz⟩
      rw [show 80 - n = 80 - (n + 1) + 1 by omega] at ez
      clear iT c cP I ok dy cy dz cz eb
      generalize 80 - (n + 1) = m at *
      rw [fbC_63_38]
      simp (disch := omega) only [hg.1, o7, o1, fl_lit, fl_nadd, fl_nmul, fl_ndiv, fl_nsub, fl_msub, fl_nle, fl_nlt, fl_neq, fl_nclamp, fl_nin, fl_ltT, fl_ltF, fl_leT, fl_leF, fl_eqT, fl_eqF, decide_true, decide_false, Bool.true_and, Bool.and_true, Bool.false_and, Bool.and_false, if_true, if_false, Bool.false_eq_true, Option.isSome_some, Option.getD_some, not_true_eq_false, not_false_eq_true, Option.toList_some, Option.toList_none, List.cons_append, List.nil_append, i4, e3, e31, fbP_63_59, ey, fbP_63_67, ez]
    · rw [if_neg q]
      refine ⟨h, ?_, fl_df_rfl, c⟩
      clear iT c cP I ok eb
      generalize 80 - (n + 1) = m at *
      rw [fbC_63_38]
      simp (disch := omega) only [hg.1, o7, o1, fl_lit, fl_nadd, fl_nmul, fl_ndiv, fl_nsub, fl_msub, fl_nle, fl_nlt, fl_neq, fl_nclamp, fl_nin, fl_ltT, fl_ltF, fl_leT, fl_leF, fl_eqT, fl_eqF, decide_true, decide_false, Bool.true_and, Bool.and_true, Bool.false_and, Bool.and_false, if_true, if_false, Bool.false_eq_true, Option.isSome_some, Option.getD_some, not_true_eq_false, not_false_eq_true, Option.toList_some, Option.toList_none, List.cons_append, List.nil_append, i4, e3, e31, fbP_63_59, fbC_63_73]
theorem fc_63 (hg : fl_g k0 h) (iT : fl_iT h tn tx) (c : fl_ck h P) (I : fl_RI P.2) (pt : P.1 ≤ tn) : ∃ y, fl_cl fl_C 63 [.ref 7, .ref 1] h = some (some none, y) ∧ fl_df fl_Srd h y ∧ fl_crr y (fl_rcol tx tn P) := by
  have o7 := (fl_o7 (k0 := k0)).1
  have e3 := c.1
  have t80 := iT.1
  have L1 := c.2.2.1.1.2.1
  have p := I.1.1
  have e42 := fc_42 hg iT e3 (by omega)
  unfold fl_sgn at e42
  obtain ⟨yN, eN, dN, cN⟩ := fc_44 hg c.2.2.2 e3 (by omega) L1 (by omega) false (k := 3) (n := P.1) (by omega) (by omega) (fun _ => rfl)
  rw [Bool.toNat_false] at eN
  have wN : fl_why (P.2 0) false 3 P.1 P.1 = fl_why (P.2 0) false 3 0 P.1 := rfl
  rw [wN] at cN
  unfold fl_rcol
  by_cases q : P.1 < tn
  · have t := (iT.2.2.2.2 P.1 q).1
    rw [if_pos q] at e42
    by_cases q2 : tx P.1 = 58
    · rw [if_pos ⟨q, q2⟩]
      have u := fl_ck_up c
      generalize h1e : fl_wi h 7 (fl_up (fl_i h 7) 3 (Int32.ofNat (P.1 + 1))) = h1 at *
      have g1 := fl_df_g hg u.1
      have iT1 : fl_iT h1 tn tx := fl_iT_df iT u.1 (fun q j z => by omega)
      obtain ⟨y, ey, dy, cy⟩ := fc_62 g1 iT1 u.2 (fl_RO_RI I) (show P.1 + 1 < 900 by omega)
      obtain ⟨z, ez, dz, cz⟩ := fc_63l 80 _ y (by omega) (fl_df_g g1 dy) (fl_iT_df iT1 dy (fun q j z => by omega)) cy (fun P' e => by
        have k := fl_rout_ok e (fl_RO_RI I)
        have k2 := k.2.1
        have k3 := k.2.2.1
        dsimp only at k2 k3
        exact ⟨k.1, by omega⟩)
      refine ⟨z, ?_, fl_df_tr (fl_df_mo u.1 (fun q j z => by omega)) (fl_df_tr dy dz), cz⟩
      rw [Nat.sub_self] at ez
      rw [q2] at e42
      clear iT c I u dy cy dz cz dN cN eN iT1
      rw [fbE_63]
      simp (disch := omega) only [fl_si_wi, hg.1, g1.1, o7, fl_lit, fl_nadd, fl_nmul, fl_ndiv, fl_nsub, fl_msub, fl_nle, fl_nlt, fl_neq, fl_nclamp, fl_nin, fl_ltT, fl_ltF, fl_leT, fl_leF, fl_eqT, fl_eqF, decide_true, decide_false, Bool.true_and, Bool.and_true, Bool.false_and, Bool.and_false, if_true, if_false, Bool.false_eq_true, Option.isSome_some, Option.getD_some, not_true_eq_false, not_false_eq_true, Option.toList_some, Option.toList_none, List.cons_append, List.nil_append, e42, fbP_63_5, e3, h1e, fbC_63_31, ey, fbP_63_36, ez]
    · rw [if_neg (fun z => q2 z.2)]
      refine ⟨yN, ?_, dN, cN⟩
      clear iT c I dN cN
      generalize tx P.1 = T at *
      rw [fbE_63]
      simp (disch := omega) only [hg.1, o7, fl_lit, fl_nadd, fl_nmul, fl_ndiv, fl_nsub, fl_msub, fl_nle, fl_nlt, fl_neq, fl_nclamp, fl_nin, fl_ltT, fl_ltF, fl_leT, fl_leF, fl_eqT, fl_eqF, decide_true, decide_false, Bool.true_and, Bool.and_true, Bool.false_and, Bool.and_false, if_true, if_false, Bool.false_eq_true, Option.isSome_some, Option.getD_some, not_true_eq_false, not_false_eq_true, Option.toList_some, Option.toList_none, List.cons_append, List.nil_append, e42, fbP_63_5, e3, eN, fbP_63_20]
  · rw [if_neg q] at e42
    rw [if_neg (fun z => q z.1)]
    refine ⟨yN, ?_, dN, cN⟩
    have mm : (-Int32.ofNat 1 = Int32.ofNat 58) = False := eq_false (by decide)
    clear iT c I dN cN
    rw [fbE_63]
    simp (disch := omega) only [hg.1, o7, fl_lit, fl_nadd, fl_nmul, fl_ndiv, fl_nsub, fl_msub, fl_nle, fl_nlt, fl_neq, fl_nclamp, fl_nin, fl_ltT, fl_ltF, fl_leT, fl_leF, fl_eqT, fl_eqF, decide_true, decide_false, Bool.true_and, Bool.and_true, Bool.false_and, Bool.and_false, if_true, if_false, Bool.false_eq_true, Option.isSome_some, Option.getD_some, not_true_eq_false, not_false_eq_true, Option.toList_some, Option.toList_none, List.cons_append, List.nil_append, e42, fbP_63_5, mm, e3, eN, fbP_63_20]
end
