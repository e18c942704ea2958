/-! blames: both alike -/
section
variable {k0 : Nat → Nat × Nat} {i0 : Nat → Nat → Int32} {h h' : fl_H} {g tx : Nat → Nat} {c : Nat × Nat × Nat × Bool} {tn : Nat}
abbrev fl_S5 (q j : Nat) : Prop := (184 ≤ q ∧ q ≤ 201) ∨ (q = 27 ∧ j = 7) ∨ (q = 1 ∧ j = 2) ∨ (q = 4 ∧ j = 2) ∨ q = 6
theorem fl_S5_S0 {q j : Nat} (z : fl_S5 q j) : fl_S0 q j := by
  rcases z with z | z | z | z | z
  · exact fl_S0_c (by omega)
  · exact fl_S0_d (by omega)
  · exact fl_S0_g z
  · exact fl_S0_i z
  · exact fl_S0_d (by omega)
theorem fl_rn_su {s s' : Int64} (d : fl_rn h 27 g s) (a : fl_df fl_S5 h h') (e : fl_l h' 27 7 = s') (u : ∀ c, c < 64 → fl_hb s' c = true → c < 2 * (g 0 + g 2)) : fl_rn h' 27 g s' := by
  have ei : ∀ j, j ≠ 7 → fl_i h' 27 j = fl_i h 27 j := fun j hj => (a.2.2.2 27 j (by omega)).1
  have el : ∀ j, j ≠ 7 → fl_l h' 27 j = fl_l h 27 j := fun j hj => (a.2.2.2 27 j (by omega)).2
  have eq : ∀ q, 28 ≤ q → q ≤ 65 → fl_l h' q = fl_l h q := fun q h1 h2 => fl_df_l a (fun j => by omega)
  refine ⟨fl_net_fr d.1 (fl_df_i a (fun j => by omega)) (fun q h1 h2 => eq q (by omega) (by omega)), ⟨?_, ?_⟩, ⟨?_, ?_, e, u⟩, ?_, ?_, ?_, ?_⟩
  · rw [ei 3 (by omega)]; exact d.2.1.1
  · rw [ei 4 (by omega)]; exact d.2.1.2
  · rw [el 5 (by omega)]; exact d.2.2.1.1
  · rw [el 6 (by omega)]; exact d.2.2.1.2.1
  · rw [eq _ (by omega) (by omega)]; exact d.2.2.2.1
  · rw [eq _ (by omega) (by omega), eq _ (by omega) (by omega)]; exact d.2.2.2.2.1
  · rw [eq _ (by omega) (by omega), eq _ (by omega) (by omega), eq _ (by omega) (by omega), eq _ (by omega) (by omega)]; exact d.2.2.2.2.2.1
  · rw [eq _ (by omega) (by omega), eq _ (by omega) (by omega), eq _ (by omega) (by omega), eq _ (by omega) (by omega)]; exact d.2.2.2.2.2.2
theorem fo_blames_a {r : Int64} (hg : fl_g k0 h) (w : fl_wf g) (d : fl_rn h 27 g r) (e1 : fl_i h 4 1 = Int32.ofNat 6) (iT : fl_iT h tn tx) : ∃ H, fl_cl fl_C 240 [.ref 0] h = some (some (some (.int (fl_blr g tx tn))), H) ∧ fl_df fl_S5 h H ∧ fl_i H 1 2 = Int32.ofNat 0 ∧ (if fl_blK g tx tn then fl_l H 27 7 = fl_bls g tx (tn / g 3) ∧ fl_i H 4 2 = Int32.ofNat 2 ∧ fl_l H 6 0 = fl_bls g tx (tn / g 3) ∧ fl_l H 6 1 = (if fl_bla g tx 64 (tn / g 3) = true then 0 else 1) else fl_l H 27 = fl_l h 27 ∧ fl_i H 4 = fl_i h 4 ∧ fl_l H 6 = fl_l h 6) := by
  have w3 : g 3 ≤ 4 := w.1.2.2.2.2.2.2.1
  have w31 : 1 ≤ g 3 := w.1.2.2.2.2.2.1
  have w7 : g 76 ≤ 24 := w.1.2.2.2.2.2.2.2.1
  have n80 := iT.1
  have R := fl_o27 (k0 := k0)
  have o27 : fl_KK k0 27 = (1, 7) ∧ fl_RR 27 0 = some 28 := ⟨R.1.1, R.1.2.1⟩
  have o28 := (fl_sk28 (k0 := k0)).1.1
  have o1 := (fl_o1 (k0 := k0)).1
  have i4 : fl_i h 28 4 = Int32.ofNat (g 3) := d.1.1.2.2.2.2
  have i3 := d.2.1.1
  have m76 : g 76 * g 3 ≤ 24 * 4 := Nat.mul_le_mul w7 w3
  have e108 := fc_108 hg iT (grp := g 3) (most := g 76 * g 3) w31 w3 (by omega)
  have e40 := fc_40 hg
  have zz : fl_df fl_S5 h (fl_z1 h (Int32.ofNat 0)) := by unfold fl_z1; exact fl_df_wiu fl_df_rfl (by omega)
  have z2 : ∀ H : fl_H, fl_i (fl_z1 H (Int32.ofNat 0)) 1 2 = Int32.ofNat 0 := fun H => by unfold fl_z1; rw [fl_i_wi, if_pos rfl, fl_up_self]
  have zl : ∀ H : fl_H, fl_l (fl_z1 H (Int32.ofNat 0)) = fl_l H := fun H => by unfold fl_z1; rw [fl_l_wi]
  have zi : ∀ (H : fl_H) q, q ≠ 1 → fl_i (fl_z1 H (Int32.ofNat 0)) q = fl_i H q := fun H q hq => by unfold fl_z1; rw [fl_i_wi, if_neg hq]
  unfold fl_blr
  by_cases b : fl_any (fl_bad tx (g 76 * g 3)) tn = true
  · have fp := fl_frst_le (q := fl_bad tx (g 76 * g 3)) tn
    have n1 : (Int32.ofNat (fl_frst (fl_bad tx (g 76 * g 3)) tn) = -Int32.ofNat 1) = False := fl_neg1 (by omega)
    rw [if_pos b] at e108 ⊢
    refine ⟨fl_z1 h (Int32.ofNat 0), ?_, zz, z2 h, ?_⟩
    · clear iT w d R zz z2 zl zi
      rw [fbE_240]
      simp (disch := omega) only [hg.1, hg.2, fl_KF, fl_RF, o27, o28, o1, fl_lit, fl_nadd, fl_nmul, fl_ndiv, fl_nsub, fl_msub, fl_nle, fl_nlt, fl_neq, fl_nclamp, fl_nin, fl_ltT, fl_ltF, fl_leT, fl_leF, fl_eqT, fl_eqF, decide_true, decide_false, Bool.true_and, Bool.and_true, Bool.false_and, Bool.and_false, if_true, if_false, Bool.false_eq_true, Option.isSome_some, Option.getD_some, not_true_eq_false, not_false_eq_true, Option.toList_some, Option.toList_none, List.cons_append, List.nil_append, i3, i4, e108, fbP_240_32, n1, e40, fbP_240_56]
    · rw [if_neg (fun z => by rw [z.1] at b; cases b)]
      exact ⟨by rw [zl], zi h 4 (by omega), by rw [zl]⟩
  · rw [if_neg b] at e108 ⊢
    have b' : fl_any (fl_bad tx (g 76 * g 3)) tn = false := by cases e : fl_any (fl_bad tx (g 76 * g 3)) tn; rfl; exact absurd e b
    by_cases md : tn % g 3 = 0
    · rw [if_pos md] at e108 ⊢
      have K : fl_blK g tx tn := ⟨b', md⟩
      have kn := fl_blK_n w n80 K
      obtain ⟨y, dy, e239⟩ := fc_239 hg w d e1 iT kn.2.2 kn.1 kn.2.1
      have y27 : fl_l y 27 = fl_l h 27 := fl_df_l dy (fun j => by omega)
      have d1 : fl_df fl_S5 h (fl_wl y 27 (fl_up (fl_l y 27) 7 (fl_bls g tx (tn / g 3)))) := fl_df_wlu (fl_df_mo dy (fun q j z => Or.inl (by omega))) (by omega)
      have d2 := fl_ca2_df (h := fl_wl y 27 (fl_up (fl_l y 27) 7 (fl_bls g tx (tn / g 3)))) (A := fl_bls g tx (tn / g 3)) (B := if fl_bla g tx 64 (tn / g 3) = true then 0 else 1)
      have v2 := fl_ca2_v (h := fl_wl y 27 (fl_up (fl_l y 27) 7 (fl_bls g tx (tn / g 3)))) (A := fl_bls g tx (tn / g 3)) (B := if fl_bla g tx 64 (tn / g 3) = true then 0 else 1)
      have l7 : fl_l (fl_ca2 (fl_wl y 27 (fl_up (fl_l y 27) 7 (fl_bls g tx (tn / g 3)))) (fl_bls g tx (tn / g 3)) (if fl_bla g tx 64 (tn / g 3) = true then 0 else 1)) 27 7 = fl_bls g tx (tn / g 3) := by
        rw [(d2.2.2.2 27 7 (by omega)).2, fl_l_wl, if_pos rfl, fl_up_self]
      have d3 : fl_df fl_S5 h (fl_ca2 (fl_wl y 27 (fl_up (fl_l y 27) 7 (fl_bls g tx (tn / g 3)))) (fl_bls g tx (tn / g 3)) (if fl_bla g tx 64 (tn / g 3) = true then 0 else 1)) := fl_df_tr d1 (fl_df_mo d2 (fun q j z => by omega))
      generalize fl_ca2 (fl_wl y 27 (fl_up (fl_l y 27) 7 (fl_bls g tx (tn / g 3)))) (fl_bls g tx (tn / g 3)) (if fl_bla g tx 64 (tn / g 3) = true then 0 else 1) = H at *
      have gH := fl_df_g hg d3
      have e40' := fc_40 gH
      refine ⟨fl_z1 H (Int32.ofNat 0), ?_, by unfold fl_z1; exact fl_df_wiu d3 (by omega), z2 H, by rw [if_pos K]; exact ⟨by rw [zl]; exact l7, by rw [zi H 4 (by omega)]; exact v2.1, by rw [zl]; exact v2.2.1, by rw [zl]; exact v2.2.2⟩⟩
      clear iT w d R zz z2 zl zi d1 d2 d3 v2 l7 kn K dy y27
      rw [fbE_240]
      simp (disch := omega) only [hg.1, hg.2, gH.1, gH.2, fl_KF, fl_RF, o27, o28, o1, fl_lit, fl_nadd, fl_nmul, fl_ndiv, fl_nsub, fl_msub, fl_nle, fl_nlt, fl_neq, fl_nclamp, fl_nin, fl_ltT, fl_ltF, fl_leT, fl_leF, fl_eqT, fl_eqF, decide_true, decide_false, Bool.true_and, Bool.and_true, Bool.false_and, Bool.and_false, if_true, if_false, Bool.false_eq_true, Option.isSome_some, Option.getD_some, not_true_eq_false, not_false_eq_true, Option.toList_some, Option.toList_none, List.cons_append, List.nil_append, i3, i4, e108, fbP_240_32, eq_self, e239, fbP_240_42, e40', fbP_240_56]
    · rw [if_neg md] at e108 ⊢
      have n1 : (Int32.ofNat tn = -Int32.ofNat 1) = False := fl_neg1 (by omega)
      refine ⟨fl_z1 h (Int32.ofNat 0), ?_, zz, z2 h, ?_⟩
      · clear iT w d R zz z2 zl zi
        rw [fbE_240]
        simp (disch := omega) only [hg.1, hg.2, fl_KF, fl_RF, o27, o28, o1, fl_lit, fl_nadd, fl_nmul, fl_ndiv, fl_nsub, fl_msub, fl_nle, fl_nlt, fl_neq, fl_nclamp, fl_nin, fl_ltT, fl_ltF, fl_leT, fl_leF, fl_eqT, fl_eqF, decide_true, decide_false, Bool.true_and, Bool.and_true, Bool.false_and, Bool.and_false, if_true, if_false, Bool.false_eq_true, Option.isSome_some, Option.getD_some, not_true_eq_false, not_false_eq_true, Option.toList_some, Option.toList_none, List.cons_append, List.nil_append, i3, i4, e108, fbP_240_32, n1, e40, fbP_240_56]
      · rw [if_neg (fun z => md z.2)]
        exact ⟨by rw [zl], zi h 4 (by omega), by rw [zl]⟩
theorem fo_blames_b (sk : fl_sk k0 i0) (hg : fl_g k0 h) (hs : fl_st k0 i0 h) (m : fl_mm h g) (w : fl_wf g) (n80 : tn ≤ 80) (e4 : fl_i h 259 4 = Int32.ofNat tn) (tp : ∀ j, j < tn → tx j < 256 ∧ fl_i h 261 j = Int32.ofNat (tx j)) : ∃ y, fl_cl fl_C 242 [.ref 259] h = some (some (some (.int (fl_blr g tx tn))), y) ∧ fl_df fl_S4 h y ∧ fl_i y 259 4 = Int32.ofNat 0 ∧ (if fl_blK g tx tn then fl_l y 263 0 = fl_bls g tx (tn / g 3) ∧ fl_i y 259 1 = Int32.ofNat 2 ∧ fl_l y 260 0 = fl_bls g tx (tn / g 3) ∧ fl_l y 260 1 = (if fl_bla g tx 64 (tn / g 3) = true then 0 else 1) else fl_l y = fl_l h ∧ fl_i y 259 1 = fl_i h 259 1) := by
  have w3 : g 3 ≤ 4 := w.1.2.2.2.2.2.2.1
  have w31 : 1 ≤ g 3 := w.1.2.2.2.2.2.1
  have w7 : g 76 ≤ 24 := w.1.2.2.2.2.2.2.2.1
  have m76 : g 76 * g 3 ≤ 24 * 4 := Nat.mul_le_mul w7 w3
  have d2 : fl_df fl_S4 h (fl_wi h 259 (fl_up (fl_i h 259) 0 (Int32.ofNat 0))) := fl_up0_df (by omega)
  have g2 := fl_df_g hg d2
  have e4' : fl_i (fl_wi h 259 (fl_up (fl_i h 259) 0 (Int32.ofNat 0))) 259 4 = Int32.ofNat tn := by rw [fl_i_wi, if_pos rfl, fl_up_ne (by omega)]; exact e4
  have e72 := fr_72 g2 e4'
  have dH : fl_df fl_S4 h (fl_rd (fl_wi h 259 (fl_up (fl_i h 259) 0 (Int32.ofNat 0))) tn) := fl_df_tr d2 (by
    unfold fl_rd
    exact fl_df_wi fl_df_rfl (fun j z => by rw [fl_up_ne (by omega), fl_up_ne (by omega), fl_up_ne (by omega)]))
  have H4 : fl_i (fl_rd (fl_wi h 259 (fl_up (fl_i h 259) 0 (Int32.ofNat 0))) tn) 259 4 = Int32.ofNat 0 := fl_rd_4
  have H6 : fl_i (fl_rd (fl_wi h 259 (fl_up (fl_i h 259) 0 (Int32.ofNat 0))) tn) 259 6 = Int32.ofNat tn := fl_rd_6
  have H1 : fl_i (fl_rd (fl_wi h 259 (fl_up (fl_i h 259) 0 (Int32.ofNat 0))) tn) 259 1 = fl_i h 259 1 := by rw [fl_rd_o (by omega), fl_i_wi, if_pos rfl, fl_up_ne (by omega)]
  have HL : fl_l (fl_rd (fl_wi h 259 (fl_up (fl_i h 259) 0 (Int32.ofNat 0))) tn) = fl_l h := by rw [fl_rd_l, fl_l_wi]
  have st0 : ∀ {o}, fl_Rn fl_C 242 9 [some (.ref 259)] [] h = o → True := fun _ => trivial
  clear st0
  generalize hH : fl_rd (fl_wi h 259 (fl_up (fl_i h 259) 0 (Int32.ofNat 0))) tn = H at *
  have gH := fl_df_g hg dH
  have mH : fl_mm H g := fun j hj => by rw [(dH.2.2.2 262 j (by omega)).1]; exact m j hj
  have sH : fl_st k0 i0 H := fl_df_st dH hs (fun q j z => by omega)
  have tH : ∀ j, j < tn → tx j < 256 ∧ fl_i H 261 j = Int32.ofNat (tx j) := fun j hj => by rw [(dH.2.2.2 261 j (by omega)).1]; exact tp j hj
  have e130 := fr_130h gH
  rw [mH 76 (by omega)] at e130
  have m3 := mH 3 (by omega)
  have sc := fr_242a sk gH sH n80 (M := g 76 * g 3) (by omega) H6 tH
  have st : fl_cl fl_C 242 [.ref 259] h = fl_Rn fl_C 242 23 [some (.ref 259), some (.int (Int32.ofNat (g 76 * g 3))), some (.int (Int32.ofNat 0))] [] H := by
    clear m mH w sk hs sH tp tH sc dH d2 hH
    rw [fbE_242]
    simp (disch := omega) only [fl_si_wi, hg.1, g2.1, gH.1, gH.2, fl_KM, fl_RM, fl_lit, fl_nadd, fl_nmul, fl_ndiv, fl_nsub, fl_msub, fl_nle, fl_nlt, fl_neq, fl_nclamp, fl_nin, fl_ltT, fl_ltF, fl_leT, fl_leF, fl_eqT, fl_eqF, decide_true, decide_false, Bool.true_and, Bool.and_true, Bool.false_and, Bool.and_false, if_true, if_false, Bool.false_eq_true, Option.isSome_some, Option.getD_some, not_true_eq_false, not_false_eq_true, Option.toList_some, Option.toList_none, List.cons_append, List.nil_append, fbC_242_5, e72, fbP_242_9, e130, fbP_242_13, m3, fbC_242_19]
  rw [st, sc]
  clear st sc e72 hH
  unfold fl_blr
  by_cases b : fl_any (fl_bad tx (g 76 * g 3)) tn = true
  · rw [if_pos b, if_pos b]
    refine ⟨H, rfl, dH, H4, ?_⟩
    rw [if_neg (fun z => by rw [z.1] at b; cases b)]
    exact ⟨HL, H1⟩
  · rw [if_neg b, if_neg b]
    have b' : fl_any (fl_bad tx (g 76 * g 3)) tn = false := by cases e : fl_any (fl_bad tx (g 76 * g 3)) tn; rfl; exact absurd e b
    have mr := Nat.mod_lt tn w31
    have dl := fl_dle tn (g 3)
    have dv0 := Nat.div_le_self tn (g 3)
    have st2 : fl_Rn fl_C 242 23 [some (.ref 259), some (.int (Int32.ofNat (g 76 * g 3))), some (.int (Int32.ofNat tn))] [] H = fl_Rn fl_C 242 70 [some (.ref 259)] [.int (Int32.ofNat (g 3)), .int (Int32.ofNat tn)] H := by
      clear m mH w sk hs sH tp tH dH d2
      rw [fbC_242_23]
      simp (disch := omega) only [gH.1, gH.2, fl_KM, fl_RM, fl_lit, fl_nadd, fl_nmul, fl_ndiv, fl_nsub, fl_msub, fl_nle, fl_nlt, fl_neq, fl_nclamp, fl_nin, fl_ltT, fl_ltF, fl_leT, fl_leF, fl_eqT, fl_eqF, decide_true, decide_false, Bool.true_and, Bool.and_true, Bool.false_and, Bool.and_false, if_true, if_false, Bool.false_eq_true, Option.isSome_some, Option.getD_some, not_true_eq_false, not_false_eq_true, Option.toList_some, Option.toList_none, List.cons_append, List.nil_append, H6, m3]
    rw [st2]
    clear st2
    by_cases md : tn % g 3 = 0
    · rw [if_pos md]
      have K : fl_blK g tx tn := ⟨b', md⟩
      have kn := fl_blK_n w n80 K
      obtain ⟨y, dy, e131, e90, r⟩ := fr_242b sk gH sH mH w n80 H6 tH kn.2.2 kn.1 kn.2.1
      refine ⟨y, ?_, fl_df_tr dH dy, r.1.trans H4, by rw [if_pos K]; exact r.2⟩
      clear m mH w sk hs sH tp tH dH d2 r kn K
      generalize fl_wi (fl_wi H 259 (fl_up (fl_i H 259) 16 (Int32.ofNat (g 76)))) 268 (fl_ar (g 76) (fun t => g (78 + t)) (fl_i H 268)) = X at *
      rw [fbC_242_70]
      simp (disch := omega) only [gH.1, fl_KM, fl_RM, fl_lit, fl_nadd, fl_nmul, fl_ndiv, fl_nsub, fl_msub, fl_nle, fl_nlt, fl_neq, fl_nclamp, fl_nin, fl_ltT, fl_ltF, fl_leT, fl_leF, fl_eqT, fl_eqF, decide_true, decide_false, Bool.true_and, Bool.and_true, Bool.false_and, Bool.and_false, if_true, if_false, Bool.false_eq_true, Option.isSome_some, Option.getD_some, not_true_eq_false, not_false_eq_true, Option.toList_some, Option.toList_none, List.cons_append, List.nil_append, fl_nmod, md, e131, fbP_242_85, e90]
    · rw [if_neg md]
      refine ⟨H, ?_, dH, H4, ?_⟩
      · clear m mH w sk hs sH tp tH dH d2
        rw [fbC_242_70]
        simp (disch := omega) only [gH.1, fl_KM, fl_RM, fl_lit, fl_nadd, fl_nmul, fl_ndiv, fl_nsub, fl_msub, fl_nle, fl_nlt, fl_neq, fl_nclamp, fl_nin, fl_ltT, fl_ltF, fl_leT, fl_leF, fl_eqT, fl_eqF, decide_true, decide_false, Bool.true_and, Bool.and_true, Bool.false_and, Bool.and_false, if_true, if_false, Bool.false_eq_true, Option.isSome_some, Option.getD_some, not_true_eq_false, not_false_eq_true, Option.toList_some, Option.toList_none, List.cons_append, List.nil_append, fl_nmod, H6]
      · rw [if_neg (fun z => md z.2)]
        exact ⟨HL, H1⟩
theorem fo_blames (sk : fl_sk k0 i0) (hs : fl_st k0 i0 h) (I : fl_Inv k0 c h) : fl_both k0 c 240 242 [] [] h := by
  obtain ⟨tn, tx, iT⟩ := I.2.2.1
  obtain ⟨rn, rv, iO⟩ := I.2.2.2.1
  obtain ⟨cn, ck, cm, iC⟩ := I.2.2.2.2.1
  obtain ⟨g, g1, g2, b1, b2, s, s1, s2, iG⟩ := I.2.2.2.2.2
  have hg := I.1
  have w := iG.1
  have w0 : g 0 ≤ 12 := w.1.2.2.2.1
  have w2 : g 2 ≤ 20 := w.1.2.2.2.2.1
  obtain ⟨H, a, dH, t2, KH⟩ := fo_blames_a hg w iG.2.2.2.1 iO.2.2.1 iT
  have gH := fl_df_g hg dH
  obtain ⟨Y, b, dY, Y4, KY⟩ := fo_blames_b (tx := tx) (tn := tn) sk gH (fl_df_st dH hs (fun q j z => by omega)) (g := g) (fun j hj => by rw [(dH.2.2.2 262 j (by omega)).1]; exact iG.2.1 j hj) w iT.1 (by rw [(dH.2.2.2 259 4 (by omega)).1]; exact iT.2.1) (fun j hj => ⟨(iT.2.2.2.2 j hj).1, by rw [(dH.2.2.2 261 j (by omega)).1]; exact (iT.2.2.2.2 j hj).2.1⟩)
  have dT : fl_df (fun q j => fl_S5 q j ∨ fl_S4 q j) h Y := fl_df_tr (fl_df_mo dH (fun q j z => Or.inl z)) (fl_df_mo dY (fun q j z => Or.inr z))
  have d0 : fl_df fl_S0 h Y := fl_df_mo dT (fun q j z => z.elim (fun z => fl_S5_S0 z) (fun z => fl_S4_S0 z))
  have yT : ∃ n tx, fl_iT Y n tx := ⟨0, tx, by omega, Y4, by rw [(dT.2.2.2 1 1 (by omega)).1]; exact iT.2.2.1, by rw [(dY.2.2.2 1 2 (by omega)).1]; exact t2, fun j hj => absurd hj (by omega)⟩
  have yC : ∃ n ck cm, fl_iC Y n ck cm := ⟨cn, ck, cm, fl_iC_fr iC (dT.2.2.2 259 11 (by omega)).1 (fl_df_i dT (fun j => by omega)) (fl_df_i dT (fun j => by omega)) (fl_df_i dT (fun j => by omega)) (fl_df_i dT (fun j => by omega)) (fl_df_l dT (fun j => by omega)) (fl_df_l dT (fun j => by omega))⟩
  have mY : fl_mm Y g := fun j hj => by rw [(dT.2.2.2 262 j (by omega)).1]; exact iG.2.1 j hj
  have yR : ∀ q, 27 ≤ q → q ≤ 27 + 38 → fl_i Y q = fl_i H q ∧ fl_l Y q = fl_l H q := fun q z1 z2 => ⟨fl_df_i dY (fun j => by omega), fl_df_l dY (fun j => by omega)⟩
  refine ⟨_, _, _, a, b, ?_⟩
  by_cases K : fl_blK g tx tn
  · rw [if_pos K] at KH KY
    have u : ∀ c, c < 64 → fl_hb (fl_bls g tx (tn / g 3)) c = true → c < 2 * (g 0 + g 2) := fun c hc z => by
      unfold fl_bls at z
      rw [fl_hb_bs _ (by omega) hc, Bool.and_eq_true] at z
      exact of_decide_eq_true z.1
    exact fl_Inv_df I d0 yT ⟨2, fun j => if j = 0 then fl_bls g tx (tn / g 3) else (if fl_bla g tx 64 (tn / g 3) = true then 0 else 1), by omega, KY.2.1, by rw [(dT.2.2.2 4 1 (by omega)).1]; exact iO.2.2.1, by rw [(dY.2.2.2 4 2 (by omega)).1]; exact KH.2.1, fun j hj => by
      rcases (show j = 0 ∨ j = 1 by omega) with e | e <;> subst e
      · exact ⟨KY.2.2.1, by rw [(dY.2.2.2 6 0 (by omega)).2]; exact KH.2.2.1⟩
      · exact ⟨KY.2.2.2, by rw [(dY.2.2.2 6 1 (by omega)).2]; exact KH.2.2.2⟩⟩ yC w mY KY.1 (fl_rn_fr (fl_rn_su iG.2.2.2.1 dH KH.1 u) yR)
  · rw [if_neg K] at KH KY
    exact fl_Inv_df I d0 yT ⟨rn, rv, fl_iO_fr iO (KY.2.trans (dH.2.2.2 259 1 (by omega)).1) (by rw [KY.1]; exact fl_df_l dH (fun j => by omega)) ((fl_df_i dY (fun j => by omega)).trans KH.2.1) ((fl_df_l dY (fun j => by omega)).trans KH.2.2)⟩ yC w mY (by rw [KY.1, (dH.2.2.2 263 0 (by omega)).2]; exact iG.2.2.1) (fl_rn_fr (fl_rn_su iG.2.2.2.1 dH (by rw [KH.1]; exact iG.2.2.2.1.2.2.1.2.2.1) iG.2.2.2.1.2.2.1.2.2.2) yR)
end
