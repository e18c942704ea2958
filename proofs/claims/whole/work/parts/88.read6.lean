/-! THE READER of the class: a line whole; lines -/
section
variable {k0 : Nat → Nat × Nat} {i0 : Nat → Nat → Int32} {h : fl_H} {g tx : Nat → Nat} {tn a s W w : Nat} {P : fl_Ps} {r : fl_Ps ⊕ fl_Fa}
theorem fl_st_df {S : Nat → Nat → Prop} {y : fl_H} (hs : fl_st k0 i0 h) (f : fl_df S h y) (z : ∀ q j, S q j → q < 285) : fl_st k0 i0 y := fl_df_st f hs z
theorem fc_60 (sk : fl_sk k0 i0) (hs : fl_st k0 i0 h) (hg : fl_g k0 h) (iT : fl_iT h tn tx) (c : fl_ck h P) (I : fl_RI P.2) (pt : P.1 ≤ tn) : ∃ y, fl_cl fl_C 60 [.ref 7, .ref 1] h = some (some none, y) ∧ fl_df fl_Srd h y ∧ fl_crr y (fl_rline tx tn P) := by
  have o7 := fl_o7 (k0 := k0)
  have o8 := (fl_o8o (k0 := k0)).1
  have k7 := (fl_k7 sk hg (i := 0) (by omega)).1
  rw [Nat.add_zero] at k7
  have e3 := c.1
  have t80 := iT.1
  have e42 := fc_42 hg iT e3 (by omega)
  have L1 := c.2.2.1.1.2.1
  have N3 : fl_i h 8 3 = Int32.ofNat (fl_rgs P.2) := c.2.2.1.1.2.2.2.1
  have p1 := I.1.1
  have rg : fl_rgs P.2 ≤ 3 := I.1.2.2.2.2.2.2.2.2.2
  have s8 := fl_sra_8 (tx := tx) (tn := tn) (a := P.1)
  obtain ⟨yN, eN, dN, cN⟩ := fc_44 hg c.2.2.2 e3 (by omega) L1 (by omega) false (k := 3) (n := P.1) (by omega) (by omega) (fun _ => rfl)
  rw [Bool.toNat_false] at eN
  have wN : fl_why (P.2 0) false 3 P.1 P.1 = fl_why (P.2 0) false 3 0 P.1 := rfl
  rw [wN] at cN
  unfold fl_sgn at e42
  by_cases q : P.1 < tn
  · have t := (iT.2.2.2.2 P.1 q).1
    rw [if_pos q] at e42
    have e55 := fc_55 sk hg hs t
    have ix := fl_srt_ix (tx P.1) t
    have u16 := fl_u16 (tx P.1) t
    have nm : (Int32.ofNat (tx P.1) = -Int32.ofNat 1) = False := fl_neg1 (by omega)
    have sv : fl_sra tx tn P.1 = fl_srt (tx P.1) := by unfold fl_sra; exact if_pos q
    have go : fl_cl fl_C 60 [.ref 7, .ref 1] h = fl_ca fl_C 60 23 [some (.ref 7), some (.ref 1)] [.int (Int32.ofNat 1)] [] (some (some (some (.int (fl_oi (fl_any (fun j => decide (fl_sb8 0 j = (Int32.toInt8 (Int32.ofNat (tx P.1))).toInt32)) 8) (fl_frst (fun j => decide (fl_sb8 0 j = (Int32.toInt8 (Int32.ofNat (tx P.1))).toInt32)) 8)))), h)) := by
      clear iT c I dN cN ix sv eN
      generalize fl_oi (fl_any (fun j => decide (fl_sb8 0 j = (Int32.toInt8 (Int32.ofNat (tx P.1))).toInt32)) 8) (fl_frst (fun j => decide (fl_sb8 0 j = (Int32.toInt8 (Int32.ofNat (tx P.1))).toInt32)) 8) = O at *
      generalize tx P.1 = T at *
      rw [fbE_60]
      simp (disch := omega) only [hg.1, o7, k7, fl_lit, fl_nadd, fl_nmul, fl_ndiv, fl_nsub, fl_msub, fl_nle, fl_nlt, fl_neq, fl_nclamp, fl_nin, fl_ltT, fl_ltF, fl_leT, fl_leF, fl_eqT, fl_eqF, decide_true, decide_false, Bool.true_and, Bool.and_true, Bool.false_and, Bool.and_false, if_true, if_false, Bool.false_eq_true, Option.isSome_some, Option.getD_some, not_true_eq_false, not_false_eq_true, Option.toList_some, Option.toList_none, List.cons_append, List.nil_append, e42, fbP_60_5, nm, u16, e55]
    rw [go]
    clear go e55 u16 nm
    generalize fl_oi (fl_any (fun j => decide (fl_sb8 0 j = (Int32.toInt8 (Int32.ofNat (tx P.1))).toInt32)) 8) (fl_frst (fun j => decide (fl_sb8 0 j = (Int32.toInt8 (Int32.ofNat (tx P.1))).toInt32)) 8) = O at *
    rw [← sv] at ix
    unfold fl_rline
    generalize fl_sra tx tn P.1 = s at *
    clear sv
    by_cases c1 : s = 0
    · rw [if_pos c1]
      refine ⟨yN, ?_, dN, cN⟩
      subst c1
      clear iT c I dN cN
      rw [fbP_60_23]
      simp (disch := omega) only [hg.1, o7, fl_lit, fl_nadd, fl_nmul, fl_ndiv, fl_nsub, fl_msub, fl_nle, fl_nlt, fl_neq, fl_nclamp, fl_nin, fl_ltT, fl_ltF, fl_leT, fl_leF, fl_eqT, fl_eqF, decide_true, decide_false, Bool.true_and, Bool.and_true, Bool.false_and, Bool.and_false, if_true, if_false, Bool.false_eq_true, Option.isSome_some, Option.getD_some, not_true_eq_false, not_false_eq_true, Option.toList_some, Option.toList_none, List.cons_append, List.nil_append, ix, e3, eN, fbP_60_39]
    · rw [if_neg c1]
      by_cases c2 : P.2 0 = 12 ∨ (s = 8 ∧ fl_rgs P.2 = 3)
      · rw [if_pos c2]
        obtain ⟨y, ey, dy, cy⟩ := fc_44 hg c.2.2.2 e3 (by omega) L1 (by omega) true (k := 4) (n := P.1) (by omega) (by omega) (fun _ => rfl)
        rw [Bool.toNat_true] at ey
        have wN : fl_why (P.2 0) true 4 P.1 P.1 = fl_why (P.2 0) true 4 0 P.1 := rfl
        rw [wN] at cy
        refine ⟨y, ?_, dy, cy⟩
        clear iT c I dN cN cy dy eN
        generalize fl_rgs P.2 = RR at *
        generalize P.2 0 = LL at *
        rw [fbP_60_23]
        rcases c2 with c2 | ⟨c2, c3⟩
        · subst c2
          simp (disch := omega) only [hg.1, hg.2, o7, o8, fl_lit, fl_nadd, fl_nmul, fl_ndiv, fl_nsub, fl_msub, fl_nle, fl_nlt, fl_neq, fl_nclamp, fl_nin, fl_ltT, fl_ltF, fl_leT, fl_leF, fl_eqT, fl_eqF, decide_true, decide_false, Bool.true_and, Bool.and_true, Bool.false_and, Bool.and_false, if_true, if_false, Bool.false_eq_true, Option.isSome_some, Option.getD_some, not_true_eq_false, not_false_eq_true, Option.toList_some, Option.toList_none, List.cons_append, List.nil_append, ix, L1, fbC_60_69, e3, ey, fbP_60_79]
        · subst c2
          subst c3
          by_cases l12 : 12 ≤ LL
          · simp (disch := omega) only [hg.1, hg.2, o7, o8, fl_lit, fl_nadd, fl_nmul, fl_ndiv, fl_nsub, fl_msub, fl_nle, fl_nlt, fl_neq, fl_nclamp, fl_nin, fl_ltT, fl_ltF, fl_leT, fl_leF, fl_eqT, fl_eqF, decide_true, decide_false, Bool.true_and, Bool.and_true, Bool.false_and, Bool.and_false, if_true, if_false, Bool.false_eq_true, Option.isSome_some, Option.getD_some, not_true_eq_false, not_false_eq_true, Option.toList_some, Option.toList_none, List.cons_append, List.nil_append, ix, L1, fbC_60_69, e3, ey, fbP_60_79]
          · simp (disch := omega) only [hg.1, hg.2, o7, o8, fl_lit, fl_nadd, fl_nmul, fl_ndiv, fl_nsub, fl_msub, fl_nle, fl_nlt, fl_neq, fl_nclamp, fl_nin, fl_ltT, fl_ltF, fl_leT, fl_leF, fl_eqT, fl_eqF, decide_true, decide_false, Bool.true_and, Bool.and_true, Bool.false_and, Bool.and_false, if_true, if_false, Bool.false_eq_true, Option.isSome_some, Option.getD_some, not_true_eq_false, not_false_eq_true, Option.toList_some, Option.toList_none, List.cons_append, List.nil_append, ix, L1, N3, fbC_60_69, e3, ey, fbP_60_79]
      · rw [if_neg c2]
        have l12 : P.2 0 < 12 := by omega
        have u := fl_ck_up c
        have R0 : fl_RQ s (P.2 2) 0 (fl_go P.2 s) := fl_RQ_go I l12 (by omega) (fun z => by omega)
        generalize h1e : fl_wi h 7 (fl_up (fl_i h 7) 3 (Int32.ofNat (P.1 + 1))) = h1 at *
        have g1 := fl_df_g hg u.1
        have c1' : fl_ck h1 (P.1 + 1, fl_go P.2 s) := ⟨u.2.1, u.2.2.1, fl_net_go u.2.2.2.1 l12 I.2.2, u.2.2.2.2⟩
        have N2 : fl_i h1 8 2 = Int32.ofNat (P.2 2) := u.2.2.2.1.1.2.2.1
        have iT1 : fl_iT h1 tn tx := fl_iT_df iT u.1 (fun q j z => by omega)
        obtain ⟨y, ey, dy, my⟩ := fc_58m (ws := fun w => w = 1) g1 iT1 c1' R0 rfl (show P.1 + 1 ≤ tn by omega)
        have s1 : fl_ca fl_C 60 23 [some (.ref 7), some (.ref 1)] [.int (Int32.ofNat 1)] [] (some (some (some (.int O)), h)) = fl_ca fl_C 60 128 [some (.ref 7), some (.ref 1), none, some (.int (Int32.ofNat s)), some (.int (Int32.ofNat (P.2 2))), some (.int (Int32.ofNat (fl_sgl s).toNat))] [] [] (some (some none, y)) := by
          have st : fl_ca fl_C 60 23 [some (.ref 7), some (.ref 1)] [.int (Int32.ofNat 1)] [] (some (some (some (.int O)), h)) = fl_Rn fl_C 60 90 [some (.ref 7), some (.ref 1), none, some (.int (Int32.ofNat s))] [] h1 := by
            clear iT c I dN cN dy my c1' u R0 eN iT1
            generalize fl_rgs P.2 = RR at *
            generalize P.2 0 = LL at *
            rw [fbP_60_23]
            by_cases z8 : s = 8
            · subst z8
              have r3 : RR < 3 := by omega
              simp (disch := omega) only [fl_si_wi, hg.1, hg.2, o7, o8, fl_lit, fl_nadd, fl_nmul, fl_ndiv, fl_nsub, fl_msub, fl_nle, fl_nlt, fl_neq, fl_nclamp, fl_nin, fl_ltT, fl_ltF, fl_leT, fl_leF, fl_eqT, fl_eqF, decide_true, decide_false, Bool.true_and, Bool.and_true, Bool.false_and, Bool.and_false, if_true, if_false, Bool.false_eq_true, Option.isSome_some, Option.getD_some, not_true_eq_false, not_false_eq_true, Option.toList_some, Option.toList_none, List.cons_append, List.nil_append, ix, L1, N3, fbC_60_80, e3, h1e]
            · simp (disch := omega) only [fl_si_wi, hg.1, hg.2, o7, o8, fl_lit, fl_nadd, fl_nmul, fl_ndiv, fl_nsub, fl_msub, fl_nle, fl_nlt, fl_neq, fl_nclamp, fl_nin, fl_ltT, fl_ltF, fl_leT, fl_leF, fl_eqT, fl_eqF, decide_true, decide_false, Bool.true_and, Bool.and_true, Bool.false_and, Bool.and_false, if_true, if_false, Bool.false_eq_true, Option.isSome_some, Option.getD_some, not_true_eq_false, not_false_eq_true, Option.toList_some, Option.toList_none, List.cons_append, List.nil_append, ix, L1, fbC_60_80, e3, h1e]
          rw [st]
          clear iT c I dN cN dy my c1' u R0 eN iT1 st c2 ix
          rcases (show s = 1 ∨ s = 2 ∨ s = 8 ∨ (s ≠ 1 ∧ s ≠ 2 ∧ s ≠ 8) by omega) with z | z | z | z
          · subst z
            rw [show fl_sgl 1 = true from rfl, Bool.toNat_true, fbC_60_90]
            simp (disch := omega) only [g1.1, g1.2, o7, o8, fl_lit, fl_nadd, fl_nmul, fl_ndiv, fl_nsub, fl_msub, fl_nle, fl_nlt, fl_neq, fl_nclamp, fl_nin, fl_ltT, fl_ltF, fl_leT, fl_leF, fl_eqT, fl_eqF, decide_true, decide_false, Bool.true_and, Bool.and_true, Bool.false_and, Bool.and_false, if_true, if_false, Bool.false_eq_true, Option.isSome_some, Option.getD_some, not_true_eq_false, not_false_eq_true, Option.toList_some, Option.toList_none, List.cons_append, List.nil_append, N2, fbC_60_115, ey]
          · subst z
            rw [show fl_sgl 2 = true from rfl, Bool.toNat_true, fbC_60_90]
            simp (disch := omega) only [g1.1, g1.2, o7, o8, fl_lit, fl_nadd, fl_nmul, fl_ndiv, fl_nsub, fl_msub, fl_nle, fl_nlt, fl_neq, fl_nclamp, fl_nin, fl_ltT, fl_ltF, fl_leT, fl_leF, fl_eqT, fl_eqF, decide_true, decide_false, Bool.true_and, Bool.and_true, Bool.false_and, Bool.and_false, if_true, if_false, Bool.false_eq_true, Option.isSome_some, Option.getD_some, not_true_eq_false, not_false_eq_true, Option.toList_some, Option.toList_none, List.cons_append, List.nil_append, N2, fbC_60_115, ey]
          · subst z
            rw [show fl_sgl 8 = true from rfl, Bool.toNat_true, fbC_60_90]
            simp (disch := omega) only [g1.1, g1.2, o7, o8, fl_lit, fl_nadd, fl_nmul, fl_ndiv, fl_nsub, fl_msub, fl_nle, fl_nlt, fl_neq, fl_nclamp, fl_nin, fl_ltT, fl_ltF, fl_leT, fl_leF, fl_eqT, fl_eqF, decide_true, decide_false, Bool.true_and, Bool.and_true, Bool.false_and, Bool.and_false, if_true, if_false, Bool.false_eq_true, Option.isSome_some, Option.getD_some, not_true_eq_false, not_false_eq_true, Option.toList_some, Option.toList_none, List.cons_append, List.nil_append, N2, fbC_60_115, ey]
          · have qf : fl_sgl s = false := by
              show (decide (s = 1) || (decide (s = 2) || decide (s = 8))) = false
              rw [decide_eq_false z.1, decide_eq_false z.2.1, decide_eq_false z.2.2]; rfl
            have z1 := z.1
            have z2 := z.2.1
            have z3 := z.2.2
            rw [qf, Bool.toNat_false, fbC_60_90]
            simp (disch := omega) only [g1.1, g1.2, o7, o8, fl_lit, fl_nadd, fl_nmul, fl_ndiv, fl_nsub, fl_msub, fl_nle, fl_nlt, fl_neq, fl_nclamp, fl_nin, fl_ltT, fl_ltF, fl_leT, fl_leF, fl_eqT, fl_eqF, decide_true, decide_false, Bool.true_and, Bool.and_true, Bool.false_and, Bool.and_false, if_true, if_false, Bool.false_eq_true, Option.isSome_some, Option.getD_some, not_true_eq_false, not_false_eq_true, Option.toList_some, Option.toList_none, List.cons_append, List.nil_append, N2, ey]
        obtain ⟨y2, ey2, dy2, my2⟩ := fc_60a my (by omega)
        obtain ⟨y3, ey3, dy3, my3⟩ := fc_60b my2 (by omega)
        obtain ⟨y4, ey4, dy4, cy4, -⟩ := fc_60c my3 (by omega)
        refine ⟨y4, ?_, fl_df_tr (fl_df_mo u.1 (fun q j z => by omega)) (fl_df_tr dy (fl_df_tr dy2 (fl_df_tr dy3 dy4))), cy4⟩
        rw [s1, ey2, ey3, ey4]
  · rw [if_neg q] at e42
    have sv : fl_sra tx tn P.1 = 0 := by unfold fl_sra; exact if_neg q
    unfold fl_rline
    rw [if_pos sv]
    refine ⟨yN, ?_, dN, cN⟩
    have mm : (-Int32.ofNat 1 = -Int32.ofNat 1) = True := eq_self _
    clear iT c I dN cN sv
    rw [fbE_60]
    simp (disch := omega) only [hg.1, o7, fl_lit, fl_nadd, fl_nmul, fl_ndiv, fl_nsub, fl_msub, fl_nle, fl_nlt, fl_neq, fl_nclamp, fl_nin, fl_ltT, fl_ltF, fl_leT, fl_leF, fl_eqT, fl_eqF, decide_true, decide_false, Bool.true_and, Bool.and_true, Bool.false_and, Bool.and_false, if_true, if_false, Bool.false_eq_true, Option.isSome_some, Option.getD_some, not_true_eq_false, not_false_eq_true, Option.toList_some, Option.toList_none, List.cons_append, List.nil_append, e42, fbP_60_5, mm, e3, eN, fbP_60_39]
/-- lines, as many as there are -/
theorem fc_68l (sk : fl_sk k0 i0) : ∀ n (r : fl_Ps ⊕ fl_Fa) (h : fl_H), n ≤ 80 → fl_st k0 i0 h → fl_g k0 h → fl_iT h tn tx → fl_crr h r → (∀ P, r = .inl P → fl_RI P.2 ∧ P.1 ≤ tn) → ∃ y, fl_Rn fl_C 68 38 [some (.ref 7), some (.ref 1), some (.int (Int32.ofNat (80 - n)))] [] h = fl_Rn fl_C 68 82 [some (.ref 7), some (.ref 1)] [] y ∧ fl_df fl_Srd h y ∧ fl_crr y (fl_bnd r (fl_rlines tx tn n))
  | 0, r, h, hn, hs, hg, iT, c, ok => by
    refine ⟨h, ?_, fl_df_rfl, ?_⟩
    · clear iT c ok hs
      rw [fbC_68_38]
      simp (disch := omega) only [fl_lit, fl_nadd, fl_nmul, fl_ndiv, fl_nsub, fl_msub, fl_nle, fl_nlt, fl_neq, fl_nclamp, fl_nin, fl_ltT, fl_ltF, fl_leT, fl_leF, fl_eqT, fl_eqF, decide_true, decide_false, Bool.true_and, Bool.and_true, Bool.false_and, Bool.and_false, if_true, if_false, Bool.false_eq_true, Option.isSome_some, Option.getD_some, not_true_eq_false, not_false_eq_true, Option.toList_some, Option.toList_none, List.cons_append, List.nil_append]
    · cases r with
      | inl P => exact c
      | inr e => exact c
  | n + 1, .inr e, h, hn, hs, hg, iT, c, ok => by
    have o7 := (fl_o7 (k0 := k0)).1
    have i4 : fl_i h 7 4 = Int32.ofNat 1 := c.2.1
    refine ⟨h, ?_, fl_df_rfl, c⟩
    clear iT c ok hs
    rw [fbC_68_38]
    simp (disch := omega) only [hg.1, o7, fl_lit, fl_nadd, fl_nmul, fl_ndiv, fl_nsub, fl_msub, fl_nle, fl_nlt, fl_neq, fl_nclamp, fl_nin, fl_ltT, fl_ltF, fl_leT, fl_leF, fl_eqT, fl_eqF, decide_true, decide_false, Bool.true_and, Bool.and_true, Bool.false_and, Bool.and_false, if_true, if_false, Bool.false_eq_true, Option.isSome_some, Option.getD_some, not_true_eq_false, not_false_eq_true, Option.toList_some, Option.toList_none, List.cons_append, List.nil_append, i4]
  | n + 1, .inl P, h, hn, hs, hg, iT, c, ok => by
    have o7 := (fl_o7 (k0 := k0)).1
    have cP : fl_ck h P := c
    have i4 : fl_i h 7 4 = Int32.ofNat 0 := cP.2.1
    have e3 := cP.1
    have t80 := iT.1
    obtain ⟨I, pt⟩ := ok P rfl
    have e42 := fc_42 hg iT e3 (by omega)
    unfold fl_sgn at e42
    have eb : fl_bnd (.inl P) (fl_rlines tx tn (n + 1)) = if P.1 < tn ∧ tx P.1 = 59 then fl_bnd (fl_rline tx tn (P.1 + 1, P.2)) (fl_rlines tx tn n) else .inl P := rfl
    rw [eb]
    by_cases q : P.1 < tn
    · have t := (iT.2.2.2.2 P.1 q).1
      rw [if_pos q] at e42
      by_cases q2 : tx P.1 = 59
      · rw [if_pos ⟨q, q2⟩]
        have u := fl_ck_up cP
        generalize h1e : fl_wi h 7 (fl_up (fl_i h 7) 3 (Int32.ofNat (P.1 + 1))) = h1 at *
        have g1 := fl_df_g hg u.1
        obtain ⟨y, ey, dy, cy⟩ := fc_60 sk (fl_st_df hs u.1 (fun q j z => by omega)) g1 (fl_iT_df iT u.1 (fun q j z => by omega)) u.2 I (show P.1 + 1 ≤ tn by omega)
        have d1 : fl_df fl_Srd h y := fl_df_tr (fl_df_mo u.1 (fun q j z => by omega)) dy
        obtain ⟨z, ez, dz, cz⟩ := fc_68l sk n _ y (by omega) (fl_st_df hs d1 (fun q j z => by omega)) (fl_df_g hg d1) (fl_iT_df iT d1 (fun q j z => by omega)) cy (fun P' e => by
          have k := fl_rline_ok (P := (P.1 + 1, P.2)) e I
          exact ⟨k.1, k.2.1⟩)
        refine ⟨z, ?_, fl_df_tr d1 dz, cz⟩
        rw [show 80 - n = 80 - (n + 1) + 1 by omega] at ez
        rw [q2] at e42
        clear iT c cP I ok hs u dy cy d1 dz cz eb
        have hm : 80 - (n + 1) < 80 := by omega
        generalize 80 - (n + 1) = m at *
        rw [fbC_68_38]
        simp (disch := omega) only [fl_si_wi, hg.1, g1.1, o7, fl_lit, fl_nadd, fl_nmul, fl_ndiv, fl_nsub, fl_msub, fl_nle, fl_nlt, fl_neq, fl_nclamp, fl_nin, fl_ltT, fl_ltF, fl_leT, fl_leF, fl_eqT, fl_eqF, decide_true, decide_false, Bool.true_and, Bool.and_true, Bool.false_and, Bool.and_false, if_true, if_false, Bool.false_eq_true, Option.isSome_some, Option.getD_some, not_true_eq_false, not_false_eq_true, Option.toList_some, Option.toList_none, List.cons_append, List.nil_append, i4, e42, fbP_68_56, e3, h1e, fbC_68_71, ey, fbP_68_76, ez]
      · rw [if_neg (fun z => q2 z.2)]
        refine ⟨h, ?_, fl_df_rfl, c⟩
        clear iT c cP I ok hs eb
        generalize tx P.1 = T at *
        rw [fbC_68_38]
        simp (disch := omega) only [hg.1, o7, fl_lit, fl_nadd, fl_nmul, fl_ndiv, fl_nsub, fl_msub, fl_nle, fl_nlt, fl_neq, fl_nclamp, fl_nin, fl_ltT, fl_ltF, fl_leT, fl_leF, fl_eqT, fl_eqF, decide_true, decide_false, Bool.true_and, Bool.and_true, Bool.false_and, Bool.and_false, if_true, if_false, Bool.false_eq_true, Option.isSome_some, Option.getD_some, not_true_eq_false, not_false_eq_true, Option.toList_some, Option.toList_none, List.cons_append, List.nil_append, i4, e42, fbP_68_56]
    · rw [if_neg q] at e42
      rw [if_neg (fun z => q z.1)]
      refine ⟨h, ?_, fl_df_rfl, c⟩
      have mm : (-Int32.ofNat 1 = Int32.ofNat 59) = False := eq_false (by decide)
      clear iT c cP I ok hs eb
      rw [fbC_68_38]
      simp (disch := omega) only [hg.1, o7, fl_lit, fl_nadd, fl_nmul, fl_ndiv, fl_nsub, fl_msub, fl_nle, fl_nlt, fl_neq, fl_nclamp, fl_nin, fl_ltT, fl_ltF, fl_leT, fl_leF, fl_eqT, fl_eqF, decide_true, decide_false, Bool.true_and, Bool.and_true, Bool.false_and, Bool.and_false, if_true, if_false, Bool.false_eq_true, Option.isSome_some, Option.getD_some, not_true_eq_false, not_false_eq_true, Option.toList_some, Option.toList_none, List.cons_append, List.nil_append, i4, e42, fbP_68_56, mm]
end
