/-! THE READER of the class: a pin, a line added, inputs -/
def fl_crr (h : fl_H) (r : fl_Ps ⊕ fl_Fa) : Prop := match r with | .inl P => fl_ck h P | .inr e => fl_cf h e
section
variable {k0 : Nat → Nat × Nat} {i0 : Nat → Nat → Int32} {h : fl_H} {g tx : Nat → Nat} {tn a s W w : Nat} {P : fl_Ps} {l : List (Nat × Nat)}
theorem fl_o8o : fl_KK k0 8 = (1, 4) ∧ fl_RR 8 5 = some 9 ∧ fl_RR 8 6 = some 11 ∧ fl_RR 8 7 = some 13 ∧ fl_RR 8 8 = some 15 ∧ fl_RR 8 9 = some 17 ∧ fl_RR 8 10 = some 19 := ⟨rfl, rfl, rfl, rfl, rfl, rfl, rfl⟩
theorem fl_o8c : fl_isC k0 9 10 12 ∧ fl_isC k0 11 12 12 ∧ fl_isC k0 13 14 12 ∧ fl_isC k0 15 16 12 ∧ fl_isC k0 17 18 20 ∧ fl_isC k0 19 20 4 := ⟨⟨rfl, rfl, rfl, by decide⟩, ⟨rfl, rfl, rfl, by decide⟩, ⟨rfl, rfl, rfl, by decide⟩, ⟨rfl, rfl, rfl, by decide⟩, ⟨rfl, rfl, rfl, by decide⟩, ⟨rfl, rfl, rfl, by decide⟩⟩
theorem fl_cz_df {S : Nat → Nat → Prop} {y : fl_H} (z : fl_cz h l) (f : fl_df S h y) (n : ∀ q j, S q j → q < 21 ∨ 26 < q) : fl_cz y l := by
  have e : ∀ q, 21 ≤ q → q ≤ 26 → fl_i y q = fl_i h q ∧ fl_l y q = fl_l h q := fun q a b => ⟨fl_df_i f (fun j s => by have := n _ _ s; omega), fl_df_l f (fun j s => by have := n _ _ s; omega)⟩
  refine ⟨by rw [(e 21 (by omega) (by omega)).1]; exact z.1, by rw [(e 24 (by omega) (by omega)).1]; exact z.2.1, by rw [(e 21 (by omega) (by omega)).1]; exact z.2.2.1, by rw [(e 24 (by omega) (by omega)).1]; exact z.2.2.2.1, fun j hj => ?_⟩
  rw [(e 23 (by omega) (by omega)).2, (e 26 (by omega) (by omega)).2]
  exact z.2.2.2.2 j hj
theorem fl_net8_df {S : Nat → Nat → Prop} {y : fl_H} (d : fl_net h 8 g) (f : fl_df S h y) (n : ∀ q j, S q j → q < 8 ∨ 20 < q) : fl_net y 8 g := fl_net_fr d (fl_df_i f (fun j s => by have := n _ _ s; omega)) (fun q z1 z2 => fl_df_l f (fun j s => by have := n _ _ s; omega))
/-- the place, one further -/
theorem fl_ck_up (c : fl_ck h P) : fl_df (fun q j => q = 7 ∧ j = 3) h (fl_wi h 7 (fl_up (fl_i h 7) 3 (Int32.ofNat (P.1 + 1)))) ∧ fl_ck (fl_wi h 7 (fl_up (fl_i h 7) 3 (Int32.ofNat (P.1 + 1)))) (P.1 + 1, P.2) := by
  have d : fl_df (fun q j => q = 7 ∧ j = 3) h (fl_wi h 7 (fl_up (fl_i h 7) 3 (Int32.ofNat (P.1 + 1)))) := fl_df_wiu fl_df_rfl ⟨rfl, rfl⟩
  exact ⟨d, by rw [fl_i_wi, if_pos rfl, fl_up_self], by rw [(d.2.2.2 7 4 (by omega)).1]; exact c.2.1, fl_net8_df c.2.2.1 d (fun q j z => by omega), fl_cz_df c.2.2.2 d (fun q j z => by omega)⟩
theorem fc_57 (hg : fl_g k0 h) (d : fl_net h 8 g) (R : fl_RQ s W w g) (h20 : g 2 < 20) {k : Nat} (hk : k < 12) : ∃ y, fl_cl fl_C 57 [.ref 8, .int (Int32.ofNat k)] h = some (some none, y) ∧ fl_df (fun q j => (q = 8 ∧ j = 2) ∨ q = 18) h y ∧ fl_net y 8 (fl_gp g k) := by
  have o := fl_o8o (k0 := k0)
  have c := (fl_o8c (k0 := k0)).2.2.2.2.1
  have g12 : g 0 < 12 := R.2.2.2.1
  have i2 := d.1.2.2.1
  obtain ⟨y, ey, dy, ly⟩ := fc_putX c hg h20 (Int32.toInt64 (Int32.ofNat k))
  have gy := fl_df_g hg dy
  have y2 : fl_i y 8 2 = Int32.ofNat (g 2) := by rw [(dy.2.2.2 8 2 (by omega)).1]; exact i2
  have d2 : fl_df (fun q j => (q = 8 ∧ j = 2) ∨ q = 18) h (fl_wi y 8 (fl_up (fl_i y 8) 2 (Int32.ofNat (g 2 + 1)))) := fl_df_wiu (fl_df_mo dy (fun q j z => Or.inr z.1)) (Or.inl ⟨rfl, rfl⟩)
  have z2 : fl_i (fl_wi y 8 (fl_up (fl_i y 8) 2 (Int32.ofNat (g 2 + 1)))) 8 2 = Int32.ofNat (g 2 + 1) := by rw [fl_i_wi, if_pos rfl, fl_up_self]
  have zl : fl_l (fl_wi y 8 (fl_up (fl_i y 8) 2 (Int32.ofNat (g 2 + 1)))) 18 = fl_up (fl_l h 18) (g 2) (Int32.toInt64 (Int32.ofNat k)) := by rw [fl_l_wi]; exact ly
  have st : fl_cl fl_C 57 [.ref 8, .int (Int32.ofNat k)] h = some (some none, fl_wi y 8 (fl_up (fl_i y 8) 2 (Int32.ofNat (g 2 + 1)))) := by
    have c1 := c.1
    clear d R c dy ly d2 z2 zl
    rw [fbE_57]
    simp (disch := omega) only [fl_si_wi, hg.1, hg.2, gy.1, gy.2, o, c1, fl_lit, fl_nadd, fl_nmul, fl_ndiv, fl_nsub, fl_msub, fl_nle, fl_nlt, fl_neq, fl_nclamp, fl_nin, fl_ltT, fl_ltF, fl_leT, fl_leF, fl_eqT, fl_eqF, decide_true, decide_false, Bool.true_and, Bool.and_true, Bool.false_and, Bool.and_false, if_true, if_false, Bool.false_eq_true, Option.isSome_some, Option.getD_some, not_true_eq_false, not_false_eq_true, Option.toList_some, Option.toList_none, List.cons_append, List.nil_append, i2, ey, fbP_57_13, y2]
  generalize fl_wi y 8 (fl_up (fl_i y 8) 2 (Int32.ofNat (g 2 + 1))) = z at *
  refine ⟨z, st, d2, ?_⟩
  have at' := fl_gp_at (g := g) (k := k) g12
  have e0 : fl_gp g k 0 = g 0 := fl_gp_ne (by omega)
  have e3 : fl_gp g k 3 = g 3 := fl_gp_ne (by omega)
  have g3 : g 3 = 0 := R.2.2.1
  have iz : ∀ j, j ≠ 2 → fl_i z 8 j = fl_i h 8 j := fun j hj => (d2.2.2.2 8 j (by omega)).1
  have lz : ∀ q, q ≠ 18 ∧ q ≠ 8 → fl_l z q = fl_l h q := fun q hq => fl_df_l d2 (fun j => by omega)
  refine ⟨⟨?_, ?_, ?_, ?_, ?_⟩, fun k' hk' => ?_, fun k' hk' => ?_, fun k' hk' => ?_, fun k' hk' => ?_, fun p hp => ?_, fun j hj => ?_⟩
  · rw [iz 0 (by omega), fl_gp_ne (by omega)]; exact d.1.1
  · rw [iz 1 (by omega), e0]; exact d.1.2.1
  · rw [z2, at'.2.1]
  · rw [iz 3 (by omega), e0, fl_cnt_congr (q' := fun k => decide (g (4 + k) = 8)) (fun i hi => by rw [fl_gp_ne (by omega)])]
    exact d.1.2.2.2.1
  · rw [iz 4 (by omega), e3]; exact d.1.2.2.2.2
  · rw [e0] at hk'
    rw [lz _ (by omega), fl_gp_ne (by omega)]; exact d.2.1 k' hk'
  · rw [e0] at hk'
    rw [lz _ (by omega), fl_gp_ne (by omega)]; exact d.2.2.1 k' hk'
  · rw [e0] at hk'
    rw [lz _ (by omega), fl_gp_ne (by omega), fl_gp_ne (by omega)]; exact d.2.2.2.1 k' hk'
  · rw [e0] at hk'
    rw [lz _ (by omega), fl_gp_ne (by omega), fl_gp_ne (by omega)]; exact d.2.2.2.2.1 k' hk'
  · rw [at'.2.1] at hp
    show fl_l z 18 p = _
    rw [zl]
    by_cases q : p = g 2
    · subst q
      rw [fl_up_self, at'.1, fl_i64 (by omega)]
    · rw [fl_up_ne q, fl_gp_ne (by omega)]
      exact d.2.2.2.2.2.1 p (by omega)
  · rw [e3, g3] at hj; omega
theorem fc_58 (hg : fl_g k0 h) (iT : fl_iT h tn tx) (c : fl_ck h P) (R : fl_RQ s W w P.2) (ha : P.1 < 900) : ∃ y, fl_cl fl_C 58 [.ref 7, .ref 1, .int (Int32.ofNat s)] h = some (some none, y) ∧ fl_df fl_Srd h y ∧ fl_crr y (fl_rpin tx tn s P) := by
  have o7 := fl_o7 (k0 := k0)
  have o8 := (fl_o8o (k0 := k0)).1
  have e3 := c.1
  have e56 := fc_56 hg iT e3 (by omega)
  have L1 := c.2.2.1.1.2.1
  have P2 := c.2.2.1.1.2.2.1
  have g12 : P.2 0 < 12 := R.2.2.2.1
  have g20 : P.2 2 ≤ 20 := R.2.2.2.2.1.2
  have s8 := R.2.2.2.2.2.2.2.1
  have ll := fl_ltr_le (tx := tx) (tn := tn) (a := P.1)
  have m1 : (-Int32.ofNat 1 = -Int32.ofNat 1) = True := eq_self _
  unfold fl_rpin
  generalize fl_ltr tx tn P.1 = k at *
  by_cases k12 : k = 12
  · rw [if_pos k12] at e56 ⊢
    obtain ⟨y, ey, dy, cy⟩ := fc_44 hg c.2.2.2 e3 (by omega) L1 (by omega) true (k := 3) (n := P.1) (by omega) (by omega) (fun _ => rfl)
    refine ⟨y, ?_, dy, ?_⟩
    · rw [Bool.toNat_true] at ey
      clear iT c R dy cy
      rw [fbE_58]
      simp (disch := omega) only [hg.1, hg.2, o7, fl_lit, fl_nadd, fl_nmul, fl_ndiv, fl_nsub, fl_msub, fl_nle, fl_nlt, fl_neq, fl_nclamp, fl_nin, fl_ltT, fl_ltF, fl_leT, fl_leF, fl_eqT, fl_eqF, decide_true, decide_false, Bool.true_and, Bool.and_true, Bool.false_and, Bool.and_false, if_true, if_false, Bool.false_eq_true, Option.isSome_some, Option.getD_some, not_true_eq_false, not_false_eq_true, Option.toList_some, Option.toList_none, List.cons_append, List.nil_append, e56, fbP_58_5, e3, ey, fbP_58_21, fbC_58_94]
    · show fl_cf y _
      have : fl_why (P.2 0) true 3 0 P.1 = fl_why (P.2 0) true 3 P.1 P.1 := rfl
      rw [this]; exact cy
  · rw [if_neg k12] at e56 ⊢
    have nm : (Int32.ofNat k = -Int32.ofNat 1) = False := fl_neg1 (by omega)
    by_cases kb : s ≠ 8 ∧ P.2 0 ≤ k
    · rw [if_pos kb]
      obtain ⟨y, ey, dy, cy⟩ := fc_44 hg c.2.2.2 e3 (by omega) L1 (by omega) true (k := 5) (n := k) (by omega) (by omega) (fun z => absurd rfl z)
      refine ⟨y, ?_, dy, cy⟩
      rw [Bool.toNat_true] at ey
      clear iT c R dy cy
      rw [fbE_58]
      simp (disch := omega) only [hg.1, hg.2, o7, o8, fl_lit, fl_nadd, fl_nmul, fl_ndiv, fl_nsub, fl_msub, fl_nle, fl_nlt, fl_neq, fl_nclamp, fl_nin, fl_ltT, fl_ltF, fl_leT, fl_leF, fl_eqT, fl_eqF, decide_true, decide_false, Bool.true_and, Bool.and_true, Bool.false_and, Bool.and_false, if_true, if_false, Bool.false_eq_true, Option.isSome_some, Option.getD_some, not_true_eq_false, not_false_eq_true, Option.toList_some, Option.toList_none, List.cons_append, List.nil_append, e56, fbP_58_5, nm, L1, ey, fbP_58_48, fbC_58_94]
    · rw [if_neg kb]
      have st : fl_cl fl_C 58 [.ref 7, .ref 1, .int (Int32.ofNat s)] h = fl_Rn fl_C 58 51 [some (.ref 7), none, none, some (.int (Int32.ofNat k))] [] h := by
        clear iT c R
        by_cases s88 : s = 8
        · rw [fbE_58]
          simp (disch := omega) only [hg.1, hg.2, o7, o8, fl_lit, fl_nadd, fl_nmul, fl_ndiv, fl_nsub, fl_msub, fl_nle, fl_nlt, fl_neq, fl_nclamp, fl_nin, fl_ltT, fl_ltF, fl_leT, fl_leF, fl_eqT, fl_eqF, decide_true, decide_false, Bool.true_and, Bool.and_true, Bool.false_and, Bool.and_false, if_true, if_false, Bool.false_eq_true, Option.isSome_some, Option.getD_some, not_true_eq_false, not_false_eq_true, Option.toList_some, Option.toList_none, List.cons_append, List.nil_append, e56, fbP_58_5, nm, L1]
        · have : k < P.2 0 := by omega
          rw [fbE_58]
          simp (disch := omega) only [hg.1, hg.2, o7, o8, fl_lit, fl_nadd, fl_nmul, fl_ndiv, fl_nsub, fl_msub, fl_nle, fl_nlt, fl_neq, fl_nclamp, fl_nin, fl_ltT, fl_ltF, fl_leT, fl_leF, fl_eqT, fl_eqF, decide_true, decide_false, Bool.true_and, Bool.and_true, Bool.false_and, Bool.and_false, if_true, if_false, Bool.false_eq_true, Option.isSome_some, Option.getD_some, not_true_eq_false, not_false_eq_true, Option.toList_some, Option.toList_none, List.cons_append, List.nil_append, e56, fbP_58_5, nm, L1]
      rw [st]
      clear st
      by_cases k20 : P.2 2 = 20
      · rw [if_pos k20]
        obtain ⟨y, ey, dy, cy⟩ := fc_44 hg c.2.2.2 e3 (by omega) L1 (by omega) true (k := 4) (n := P.1) (by omega) (by omega) (fun _ => rfl)
        refine ⟨y, ?_, dy, ?_⟩
        · rw [Bool.toNat_true] at ey
          clear iT c R dy cy
          rw [fbC_58_51]
          simp (disch := omega) only [hg.1, hg.2, o7, o8, fl_lit, fl_nadd, fl_nmul, fl_ndiv, fl_nsub, fl_msub, fl_nle, fl_nlt, fl_neq, fl_nclamp, fl_nin, fl_ltT, fl_ltF, fl_leT, fl_leF, fl_eqT, fl_eqF, decide_true, decide_false, Bool.true_and, Bool.and_true, Bool.false_and, Bool.and_false, if_true, if_false, Bool.false_eq_true, Option.isSome_some, Option.getD_some, not_true_eq_false, not_false_eq_true, Option.toList_some, Option.toList_none, List.cons_append, List.nil_append, P2, e3, ey, fbP_58_73, fbC_58_94]
        · show fl_cf y _
          have : fl_why (P.2 0) true 4 0 P.1 = fl_why (P.2 0) true 4 P.1 P.1 := rfl
          rw [this]; exact cy
      · rw [if_neg k20]
        obtain ⟨y, ey, dy, ny⟩ := fc_57 hg c.2.2.1 R (by omega) (k := k) (by omega)
        have gy := fl_df_g hg dy
        have cy : fl_ck y (P.1, fl_gp P.2 k) := ⟨by rw [(dy.2.2.2 7 3 (by omega)).1]; exact e3, by rw [(dy.2.2.2 7 4 (by omega)).1]; exact c.2.1, ny, fl_cz_df c.2.2.2 dy (fun q j z => by omega)⟩
        have y3 := cy.1
        have u := fl_ck_up cy
        refine ⟨_, ?_, fl_df_tr (fl_df_mo dy (fun q j z => by omega)) (fl_df_mo u.1 (fun q j z => by omega)), u.2⟩
        clear iT c R dy ny cy u
        dsimp only at y3
        rw [fbC_58_51]
        simp (disch := omega) only [fl_si_wi, hg.1, hg.2, gy.1, o7, o8, fl_lit, fl_nadd, fl_nmul, fl_ndiv, fl_nsub, fl_msub, fl_nle, fl_nlt, fl_neq, fl_nclamp, fl_nin, fl_ltT, fl_ltF, fl_leT, fl_leF, fl_eqT, fl_eqF, decide_true, decide_false, Bool.true_and, Bool.and_true, Bool.false_and, Bool.and_false, if_true, if_false, Bool.false_eq_true, Option.isSome_some, Option.getD_some, not_true_eq_false, not_false_eq_true, Option.toList_some, Option.toList_none, List.cons_append, List.nil_append, P2, ey, fbP_58_84, y3, fbC_58_94]
end
