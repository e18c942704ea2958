/-! THE READER of the class: a line -/
section
variable {k0 : Nat → Nat × Nat} {i0 : Nat → Nat → Int32} {h : fl_H} {g tx : Nat → Nat} {tn a s W w : Nat} {P : fl_Ps} {l : List (Nat × Nat)} {r : fl_Ps ⊕ fl_Fa}
abbrev fl_st01 (tx : Nat → Nat) (tn a : Nat) : Prop := a < tn ∧ (tx a = 48 ∨ tx a = 49)
theorem fc_59 (hg : fl_g k0 h) (iT : fl_iT h tn tx) (c : fl_ck h P) (ha : P.1 < 900) : ∃ y, fl_cl fl_C 59 [.ref 7, .ref 1] h = some (some (some (.int (Int32.ofNat (if fl_st01 tx tn P.1 then tx P.1 - 48 else 2)))), y) ∧ fl_df (fun q j => q = 7 ∧ j = 3) h y ∧ fl_ck y (if fl_st01 tx tn P.1 then P.1 + 1 else P.1, P.2) := by
  have o7 := (fl_o7 (k0 := k0)).1
  have e3 := c.1
  have e42 := fc_42 hg iT e3 (by omega)
  unfold fl_sgn at e42
  by_cases q : P.1 < tn
  · have t := (iT.2.2.2.2 P.1 q).1
    rw [if_pos q] at e42
    by_cases r : tx P.1 = 48 ∨ tx P.1 = 49
    · rw [if_pos ⟨q, r⟩, if_pos ⟨q, r⟩]
      have u := fl_ck_up c
      refine ⟨_, ?_, u.1, u.2⟩
      clear iT c u
      generalize tx P.1 = T at *
      generalize P.1 = A at *
      rw [fbE_59]
      rcases r with r | r
      · subst r
        simp (disch := omega) only [fl_si_wi, hg.1, o7, fl_lit, fl_nadd, fl_nmul, fl_ndiv, fl_nsub, fl_msub, fl_nle, fl_nlt, fl_neq, fl_nclamp, fl_nin, fl_ltT, fl_ltF, fl_leT, fl_leF, fl_eqT, fl_eqF, decide_true, decide_false, Bool.true_and, Bool.and_true, Bool.false_and, Bool.and_false, if_true, if_false, Bool.false_eq_true, Option.isSome_some, Option.getD_some, not_true_eq_false, not_false_eq_true, Option.toList_some, Option.toList_none, List.cons_append, List.nil_append, e42, fbP_59_5, fbC_59_20, e3, fbC_59_30]
      · subst r
        simp (disch := omega) only [fl_si_wi, hg.1, o7, fl_lit, fl_nadd, fl_nmul, fl_ndiv, fl_nsub, fl_msub, fl_nle, fl_nlt, fl_neq, fl_nclamp, fl_nin, fl_ltT, fl_ltF, fl_leT, fl_leF, fl_eqT, fl_eqF, decide_true, decide_false, Bool.true_and, Bool.and_true, Bool.false_and, Bool.and_false, if_true, if_false, Bool.false_eq_true, Option.isSome_some, Option.getD_some, not_true_eq_false, not_false_eq_true, Option.toList_some, Option.toList_none, List.cons_append, List.nil_append, e42, fbP_59_5, fbC_59_20, e3, fbC_59_30]
    · rw [if_neg (fun z => r z.2), if_neg (fun z => r z.2)]
      refine ⟨h, ?_, fl_df_rfl, c⟩
      have r1 : tx P.1 ≠ 48 := fun z => r (Or.inl z)
      have r2 : tx P.1 ≠ 49 := fun z => r (Or.inr z)
      clear iT c r
      generalize tx P.1 = T at *
      rw [fbE_59]
      simp (disch := omega) only [hg.1, o7, fl_lit, fl_nadd, fl_nmul, fl_ndiv, fl_nsub, fl_msub, fl_nle, fl_nlt, fl_neq, fl_nclamp, fl_nin, fl_ltT, fl_ltF, fl_leT, fl_leF, fl_eqT, fl_eqF, decide_true, decide_false, Bool.true_and, Bool.and_true, Bool.false_and, Bool.and_false, if_true, if_false, Bool.false_eq_true, Option.isSome_some, Option.getD_some, not_true_eq_false, not_false_eq_true, Option.toList_some, Option.toList_none, List.cons_append, List.nil_append, e42, fbP_59_5]
  · rw [if_neg q] at e42
    rw [if_neg (fun z => q z.1), if_neg (fun z => q z.1)]
    refine ⟨h, ?_, fl_df_rfl, c⟩
    have m1 : (-Int32.ofNat 1 = Int32.ofNat 48) = False := eq_false (by decide)
    have m2 : (-Int32.ofNat 1 = Int32.ofNat 49) = False := eq_false (by decide)
    clear iT c
    rw [fbE_59]
    simp (disch := omega) only [hg.1, o7, fl_lit, fl_nadd, fl_nmul, fl_ndiv, fl_nsub, fl_msub, fl_nle, fl_nlt, fl_neq, fl_nclamp, fl_nin, fl_ltT, fl_ltF, fl_leT, fl_leF, fl_eqT, fl_eqF, decide_true, decide_false, Bool.true_and, Bool.and_true, Bool.false_and, Bool.and_false, if_true, if_false, Bool.false_eq_true, Option.isSome_some, Option.getD_some, not_true_eq_false, not_false_eq_true, Option.toList_some, Option.toList_none, List.cons_append, List.nil_append, e42, fbP_59_5, m1, m2]
/-- the middle of a line: so far well, or refused -/
abbrev fl_mid (k0 : Nat → Nat × Nat) (tx : Nat → Nat) (tn s W : Nat) (ws : Nat → Prop) (h : fl_H) (r : fl_Ps ⊕ fl_Fa) : Prop := fl_g k0 h ∧ fl_iT h tn tx ∧ fl_crr h r ∧ ∀ P, r = .inl P → P.1 ≤ tn ∧ ∃ w, ws w ∧ fl_RQ s W w P.2
theorem fl_mid_ok {ws : Nat → Prop} {r : fl_Ps ⊕ fl_Fa} (m : fl_mid k0 tx tn s W ws h r) : (∀ P, r = .inl P → fl_i h 7 4 = Int32.ofNat 0) ∧ ∀ e, r = .inr e → fl_i h 7 4 = Int32.ofNat 1 :=
  ⟨fun P e => by have := m.2.2.1; rw [e] at this; exact this.2.1, fun x e => by have := m.2.2.1; rw [e] at this; exact this.2.1⟩
abbrev fl_sgl (s : Nat) : Bool := decide (s = 1) || (decide (s = 2) || decide (s = 8))
/-- a pin more, in the middle -/
theorem fc_58m {ws : Nat → Prop} (hg : fl_g k0 h) (iT : fl_iT h tn tx) (c : fl_ck h P) (R : fl_RQ s W w P.2) (hw : ws (w + 1)) (ha : P.1 ≤ tn) : ∃ y, fl_cl fl_C 58 [.ref 7, .ref 1, .int (Int32.ofNat s)] h = some (some none, y) ∧ fl_df fl_Srd h y ∧ fl_mid k0 tx tn s W ws y (fl_rpin tx tn s P) := by
  have t80 := iT.1
  obtain ⟨y, ey, dy, cy⟩ := fc_58 hg iT c R (by omega)
  refine ⟨y, ey, dy, fl_df_g hg dy, fl_iT_df iT dy (fun q j z => by omega), cy, fun P' e => ?_⟩
  have k := fl_rpin_ok e R
  exact ⟨by omega, w + 1, hw, k.1⟩
theorem fc_60a (m : fl_mid k0 tx tn s W (fun w => w = 1) h r) (hs : 1 ≤ s ∧ s ≤ 8) : ∃ y, fl_ca fl_C 60 128 [some (.ref 7), some (.ref 1), none, some (.int (Int32.ofNat s)), some (.int (Int32.ofNat W)), some (.int (Int32.ofNat (fl_sgl s).toNat))] [] [] (some (some none, h)) = fl_Rn fl_C 60 146 [some (.ref 7), some (.ref 1), none, some (.int (Int32.ofNat s)), some (.int (Int32.ofNat W)), some (.int (Int32.ofNat (fl_sgl s).toNat))] [] y ∧ fl_df fl_Srd h y ∧ fl_mid k0 tx tn s W (fun w => if fl_sgl s = true then w = 1 else w = 2) y (fl_bnd r (fl_rpin2 tx tn s)) := by
  have o7 := (fl_o7 (k0 := k0)).1
  have hg := m.1
  have ok := fl_mid_ok m
  cases r with
  | inr e =>
    have i4 := ok.2 e rfl
    refine ⟨h, ?_, fl_df_rfl, hg, m.2.1, m.2.2.1, fun P z => by cases z⟩
    clear m ok
    rw [fbP_60_128]
    simp (disch := omega) only [hg.1, o7, fl_lit, fl_nadd, fl_nmul, fl_ndiv, fl_nsub, fl_msub, fl_nle, fl_nlt, fl_neq, fl_nclamp, fl_nin, fl_ltT, fl_ltF, fl_leT, fl_leF, fl_eqT, fl_eqF, decide_true, decide_false, Bool.true_and, Bool.and_true, Bool.false_and, Bool.and_false, if_true, if_false, Bool.false_eq_true, Option.isSome_some, Option.getD_some, not_true_eq_false, not_false_eq_true, Option.toList_some, Option.toList_none, List.cons_append, List.nil_append, i4]
  | inl P =>
    have i4 := ok.1 P rfl
    obtain ⟨pt, w, rfl, R⟩ := m.2.2.2 P rfl
    by_cases q : fl_sgl s = true
    · have q2 : ¬ (3 ≤ s ∧ s ≤ 7) := by
        simp only [Bool.or_eq_true, decide_eq_true_eq] at q
        omega
      have eb : fl_bnd (.inl P) (fl_rpin2 tx tn s) = .inl P := if_neg q2
      rw [eb, q, Bool.toNat_true]
      refine ⟨h, ?_, fl_df_rfl, hg, m.2.1, m.2.2.1, fun P' z => by cases z; exact ⟨pt, 1, (if_pos rfl).mpr rfl, R⟩⟩
      clear m ok eb R
      rw [fbP_60_128]
      simp (disch := omega) only [hg.1, o7, fl_lit, fl_nadd, fl_nmul, fl_ndiv, fl_nsub, fl_msub, fl_nle, fl_nlt, fl_neq, fl_nclamp, fl_nin, fl_ltT, fl_ltF, fl_leT, fl_leF, fl_eqT, fl_eqF, decide_true, decide_false, Bool.true_and, Bool.and_true, Bool.false_and, Bool.and_false, if_true, if_false, Bool.false_eq_true, Option.isSome_some, Option.getD_some, not_true_eq_false, not_false_eq_true, Option.toList_some, Option.toList_none, List.cons_append, List.nil_append, i4]
    · have q2 : 3 ≤ s ∧ s ≤ 7 := by
        simp only [Bool.or_eq_true, decide_eq_true_eq] at q
        omega
      have qf : fl_sgl s = false := by
        cases z : fl_sgl s with
        | false => rfl
        | true => exact absurd z q
      have eb : fl_bnd (.inl P) (fl_rpin2 tx tn s) = fl_rpin tx tn s P := if_pos q2
      obtain ⟨y, ey, dy, my⟩ := fc_58m (ws := fun w => if fl_sgl s = true then w = 1 else w = 2) hg m.2.1 m.2.2.1 R (by rw [qf]; rfl) pt
      rw [eb]
      refine ⟨y, ?_, dy, my⟩
      rw [qf, Bool.toNat_false]
      clear m ok eb R my dy
      rw [fbP_60_128]
      simp (disch := omega) only [hg.1, o7, fl_lit, fl_nadd, fl_nmul, fl_ndiv, fl_nsub, fl_msub, fl_nle, fl_nlt, fl_neq, fl_nclamp, fl_nin, fl_ltT, fl_ltF, fl_leT, fl_leF, fl_eqT, fl_eqF, decide_true, decide_false, Bool.true_and, Bool.and_true, Bool.false_and, Bool.and_false, if_true, if_false, Bool.false_eq_true, Option.isSome_some, Option.getD_some, not_true_eq_false, not_false_eq_true, Option.toList_some, Option.toList_none, List.cons_append, List.nil_append, i4, ey, fbP_60_146]
theorem fc_60b (m : fl_mid k0 tx tn s W (fun w => if fl_sgl s = true then w = 1 else w = 2) h r) (hs : 1 ≤ s ∧ s ≤ 8) : ∃ y, fl_Rn fl_C 60 146 [some (.ref 7), some (.ref 1), none, some (.int (Int32.ofNat s)), some (.int (Int32.ofNat W)), some (.int (Int32.ofNat (fl_sgl s).toNat))] [] h = fl_Rn fl_C 60 173 [some (.ref 7), some (.ref 1), none, some (.int (Int32.ofNat s)), some (.int (Int32.ofNat W))] [] y ∧ fl_df fl_Srd h y ∧ fl_mid k0 tx tn s W (fun w => if fl_sgl s = true then w = 1 else w = 2 ∨ w = 3) y (fl_bnd r (fl_rpin3 tx tn s)) := by
  have o7 := (fl_o7 (k0 := k0)).1
  have hg := m.1
  have ok := fl_mid_ok m
  cases r with
  | inr e =>
    have i4 := ok.2 e rfl
    refine ⟨h, ?_, fl_df_rfl, hg, m.2.1, m.2.2.1, fun P z => by cases z⟩
    clear m ok
    rw [fbC_60_146]
    simp (disch := omega) only [hg.1, o7, fl_lit, fl_nadd, fl_nmul, fl_ndiv, fl_nsub, fl_msub, fl_nle, fl_nlt, fl_neq, fl_nclamp, fl_nin, fl_ltT, fl_ltF, fl_leT, fl_leF, fl_eqT, fl_eqF, decide_true, decide_false, Bool.true_and, Bool.and_true, Bool.false_and, Bool.and_false, if_true, if_false, Bool.false_eq_true, Option.isSome_some, Option.getD_some, not_true_eq_false, not_false_eq_true, Option.toList_some, Option.toList_none, List.cons_append, List.nil_append, i4]
  | inl P =>
    have i4 := ok.1 P rfl
    obtain ⟨pt, w, hw, R⟩ := m.2.2.2 P rfl
    by_cases q : fl_sgl s = true
    · have q2 : ¬ (3 ≤ s ∧ s ≤ 7 ∧ fl_ltr tx tn P.1 ≠ 12) := by
        simp only [Bool.or_eq_true, decide_eq_true_eq] at q
        omega
      have eb : fl_bnd (.inl P) (fl_rpin3 tx tn s) = .inl P := if_neg q2
      rw [if_pos q] at hw
      rw [eb, q, Bool.toNat_true]
      refine ⟨h, ?_, fl_df_rfl, hg, m.2.1, m.2.2.1, fun P' z => by cases z; exact ⟨pt, w, (if_pos rfl).mpr hw, R⟩⟩
      clear m ok eb R
      rw [fbC_60_146]
      simp (disch := omega) only [hg.1, o7, fl_lit, fl_nadd, fl_nmul, fl_ndiv, fl_nsub, fl_msub, fl_nle, fl_nlt, fl_neq, fl_nclamp, fl_nin, fl_ltT, fl_ltF, fl_leT, fl_leF, fl_eqT, fl_eqF, decide_true, decide_false, Bool.true_and, Bool.and_true, Bool.false_and, Bool.and_false, if_true, if_false, Bool.false_eq_true, Option.isSome_some, Option.getD_some, not_true_eq_false, not_false_eq_true, Option.toList_some, Option.toList_none, List.cons_append, List.nil_append, i4]
    · have q2 : 3 ≤ s ∧ s ≤ 7 := by
        simp only [Bool.or_eq_true, decide_eq_true_eq] at q
        omega
      have qf : fl_sgl s = false := by
        cases z : fl_sgl s with
        | false => rfl
        | true => exact absurd z q
      rw [if_neg q] at hw
      subst hw
      have cP : fl_ck h P := m.2.2.1
      have t80 := m.2.1.1
      have e56 := fc_56 hg m.2.1 cP.1 (by omega)
      rw [qf, Bool.toNat_false]
      by_cases k12 : fl_ltr tx tn P.1 = 12
      · have eb : fl_bnd (.inl P) (fl_rpin3 tx tn s) = .inl P := if_neg (fun z => z.2.2 k12)
        rw [if_pos k12] at e56
        rw [eb]
        refine ⟨h, ?_, fl_df_rfl, hg, m.2.1, m.2.2.1, fun P' z => by cases z; exact ⟨pt, 2, Or.inl rfl, R⟩⟩
        have mm : (-Int32.ofNat 1 = -Int32.ofNat 1) = True := eq_self _
        clear m ok eb R cP
        rw [fbC_60_146]
        simp (disch := omega) only [hg.1, o7, fl_lit, fl_nadd, fl_nmul, fl_ndiv, fl_nsub, fl_msub, fl_nle, fl_nlt, fl_neq, fl_nclamp, fl_nin, fl_ltT, fl_ltF, fl_leT, fl_leF, fl_eqT, fl_eqF, decide_true, decide_false, Bool.true_and, Bool.and_true, Bool.false_and, Bool.and_false, if_true, if_false, Bool.false_eq_true, Option.isSome_some, Option.getD_some, not_true_eq_false, not_false_eq_true, Option.toList_some, Option.toList_none, List.cons_append, List.nil_append, i4, e56, fbP_60_163, mm]
      · have eb : fl_bnd (.inl P) (fl_rpin3 tx tn s) = fl_rpin tx tn s P := if_pos ⟨q2.1, q2.2, k12⟩
        rw [if_neg k12] at e56
        obtain ⟨y, ey, dy, my⟩ := fc_58m (ws := fun w => if fl_sgl s = true then w = 1 else w = 2 ∨ w = 3) hg m.2.1 cP R (by rw [qf]; exact Or.inr rfl) pt
        rw [eb]
        rw [qf] at my
        refine ⟨y, ?_, dy, my⟩
        have ll := fl_ltr_le (tx := tx) (tn := tn) (a := P.1)
        have nm : (Int32.ofNat (fl_ltr tx tn P.1) = -Int32.ofNat 1) = False := fl_neg1 (by omega)
        clear m ok eb R cP my dy
        generalize fl_ltr tx tn P.1 = K at *
        rw [fbC_60_146]
        simp (disch := omega) only [hg.1, o7, fl_lit, fl_nadd, fl_nmul, fl_ndiv, fl_nsub, fl_msub, fl_nle, fl_nlt, fl_neq, fl_nclamp, fl_nin, fl_ltT, fl_ltF, fl_leT, fl_leF, fl_eqT, fl_eqF, decide_true, decide_false, Bool.true_and, Bool.and_true, Bool.false_and, Bool.and_false, if_true, if_false, Bool.false_eq_true, Option.isSome_some, Option.getD_some, not_true_eq_false, not_false_eq_true, Option.toList_some, Option.toList_none, List.cons_append, List.nil_append, i4, e56, fbP_60_163, nm, ey, fbP_60_173]
theorem fc_60c (m : fl_mid k0 tx tn s W (fun w => if fl_sgl s = true then w = 1 else w = 2 ∨ w = 3) h r) (hs : 1 ≤ s ∧ s ≤ 8) : ∃ y, fl_Rn fl_C 60 173 [some (.ref 7), some (.ref 1), none, some (.int (Int32.ofNat s)), some (.int (Int32.ofNat W))] [] h = some (some none, y) ∧ fl_df fl_Srd h y ∧ fl_crr y (fl_bnd r (fl_rend tx tn s)) ∧ ∀ P', fl_bnd r (fl_rend tx tn s) = .inl P' → P'.1 ≤ tn ∧ fl_RI P'.2 := by
  have o7 := fl_o7 (k0 := k0)
  have o8 := (fl_o8o (k0 := k0)).1
  have hg := m.1
  have ok := fl_mid_ok m
  cases r with
  | inr e =>
    have i4 := ok.2 e rfl
    refine ⟨h, ?_, fl_df_rfl, m.2.2.1, fun P z => by cases z⟩
    clear m ok
    rw [fbC_60_173]
    simp (disch := omega) only [hg.1, o7, fl_lit, fl_nadd, fl_nmul, fl_ndiv, fl_nsub, fl_msub, fl_nle, fl_nlt, fl_neq, fl_nclamp, fl_nin, fl_ltT, fl_ltF, fl_leT, fl_leF, fl_eqT, fl_eqF, decide_true, decide_false, Bool.true_and, Bool.and_true, Bool.false_and, Bool.and_false, if_true, if_false, Bool.false_eq_true, Option.isSome_some, Option.getD_some, not_true_eq_false, not_false_eq_true, Option.toList_some, Option.toList_none, List.cons_append, List.nil_append, i4, fbC_60_205]
  | inl P =>
    have i4 := ok.1 P rfl
    obtain ⟨pt, w, hw, R⟩ := m.2.2.2 P rfl
    have cP : fl_ck h P := m.2.2.1
    have t80 := m.2.1.1
    have ws : 1 ≤ w ∧ w ≤ 3 ∧ ((s = 1 ∨ s = 2 ∨ s = 8) ↔ w = 1) := by
      by_cases q : fl_sgl s = true
      · rw [if_pos q] at hw
        simp only [Bool.or_eq_true, decide_eq_true_eq] at q
        omega
      · rw [if_neg q] at hw
        simp only [Bool.or_eq_true, decide_eq_true_eq] at q
        omega
    by_cases s8 : s = 8
    · obtain ⟨y1, e1, d1, c1⟩ := fc_59 hg m.2.1 cP (by omega)
      have g1 := fl_df_g hg d1
      have v2 : (if fl_st01 tx tn P.1 then tx P.1 - 48 else 2) ≤ 2 := by split <;> omega
      have eb : fl_bnd (.inl P) (fl_rend tx tn s) = .inl (if fl_st01 tx tn P.1 then P.1 + 1 else P.1, fl_gc P.2 (if fl_st01 tx tn P.1 then tx P.1 - 48 else 2)) := by
        show fl_rend tx tn s P = _
        unfold fl_rend
        by_cases q : fl_st01 tx tn P.1
        · rw [if_pos ⟨s8, q.1, q.2⟩, if_pos q, if_pos q]
        · rw [if_neg (fun z => q ⟨z.2.1, z.2.2⟩), if_neg q, if_neg q]
      have pl : (if fl_st01 tx tn P.1 then P.1 + 1 else P.1) ≤ tn := by
        split
        · rename_i z; have := z.1; omega
        · exact pt
      generalize (if fl_st01 tx tn P.1 then tx P.1 - 48 else 2) = V at *
      generalize (if fl_st01 tx tn P.1 then P.1 + 1 else P.1) = A at *
      obtain ⟨y, ey, dy, ny⟩ := fc_21g g1 c1.2.2.1 R ws.1 v2
      rw [if_pos s8] at ey
      refine ⟨y, ?_, fl_df_tr (fl_df_mo d1 (fun q j z => by omega)) (fl_df_mo dy (fun q j z => by omega)), ?_, fun P' z => ?_⟩
      · clear m ok R cP d1 c1 dy ny eb ws
        subst s8
        rw [fbC_60_173]
        simp (disch := omega) only [hg.1, hg.2, g1.1, o7, o8, fl_lit, fl_nadd, fl_nmul, fl_ndiv, fl_nsub, fl_msub, fl_nle, fl_nlt, fl_neq, fl_nclamp, fl_nin, fl_ltT, fl_ltF, fl_leT, fl_leF, fl_eqT, fl_eqF, decide_true, decide_false, Bool.true_and, Bool.and_true, Bool.false_and, Bool.and_false, if_true, if_false, Bool.false_eq_true, Option.isSome_some, Option.getD_some, not_true_eq_false, not_false_eq_true, Option.toList_some, Option.toList_none, List.cons_append, List.nil_append, i4, e1, fbP_60_198, ey, fbP_60_205, fbC_60_205]
      · rw [eb]
        exact ⟨by rw [(dy.2.2.2 7 3 (by omega)).1]; exact c1.1, by rw [(dy.2.2.2 7 4 (by omega)).1]; exact c1.2.1, ny, fl_cz_df c1.2.2.2 dy (fun q j z => by omega)⟩
      · rw [eb] at z
        cases z
        exact ⟨pl, fl_RI_gc R ⟨ws.1, ws.2.1⟩ ws.2.2 ⟨v2, fun z => absurd s8 z⟩⟩
    · have eb : fl_bnd (.inl P) (fl_rend tx tn s) = .inl (P.1, fl_gc P.2 2) := if_neg (fun z => s8 z.1)
      obtain ⟨y, ey, dy, ny⟩ := fc_21g hg cP.2.2.1 R ws.1 (v := 2) (by omega)
      rw [if_neg s8] at ey
      refine ⟨y, ?_, fl_df_mo dy (fun q j z => by omega), ?_, fun P' z => ?_⟩
      · clear m ok R cP dy ny eb ws
        rw [fbC_60_173]
        simp (disch := omega) only [hg.1, hg.2, o7, o8, fl_lit, fl_nadd, fl_nmul, fl_ndiv, fl_nsub, fl_msub, fl_nle, fl_nlt, fl_neq, fl_nclamp, fl_nin, fl_ltT, fl_ltF, fl_leT, fl_leF, fl_eqT, fl_eqF, decide_true, decide_false, Bool.true_and, Bool.and_true, Bool.false_and, Bool.and_false, if_true, if_false, Bool.false_eq_true, Option.isSome_some, Option.getD_some, not_true_eq_false, not_false_eq_true, Option.toList_some, Option.toList_none, List.cons_append, List.nil_append, i4, ey, fbP_60_205, fbC_60_205]
      · rw [eb]
        exact ⟨by rw [(dy.2.2.2 7 3 (by omega)).1]; exact cP.1, by rw [(dy.2.2.2 7 4 (by omega)).1]; exact cP.2.1, ny, fl_cz_df cP.2.2.2 dy (fun q j z => by omega)⟩
      · rw [eb] at z
        cases z
        exact ⟨pt, fl_RI_gc R ⟨ws.1, ws.2.1⟩ ws.2.2 ⟨by omega, fun _ => rfl⟩⟩
end
