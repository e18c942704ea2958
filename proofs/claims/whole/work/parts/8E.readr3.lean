/-! THE REFERENCE reads: a line -/
theorem fl_neg_lt : ∀ n, n < 200 → -Int32.ofNat 1 - Int32.ofNat n < Int32.ofNat 0 := by decide +kernel
theorem fl_neg_ne : ∀ n, n < 200 → ¬ (-Int32.ofNat 1 - Int32.ofNat n = Int32.ofNat 0) := by decide +kernel
theorem fl_neg_le : ∀ n, n < 200 → ¬ (Int32.ofNat 0 ≤ -Int32.ofNat 1 - Int32.ofNat n) := by decide +kernel
section
variable {k0 : Nat → Nat × Nat} {i0 : Nat → Nat → Int32} {h : fl_H} {g tx : Nat → Nat} {tn a s W w L : Nat} {P : fl_Ps} {r : fl_Ps ⊕ fl_Fa} {v c12 : Int32} {ws : Nat → Prop}
abbrev fl_mdr (k0 : Nat → Nat × Nat) (i0 : Nat → Nat → Int32) (tx : Nat → Nat) (tn s W L : Nat) (c12 : Int32) (ws : Nat → Prop) (h : fl_H) (v : Int32) (r : fl_Ps ⊕ fl_Fa) : Prop := fl_st k0 i0 h ∧ fl_g k0 h ∧ fl_xT h tn tx ∧ fl_i h 259 12 = c12 ∧ fl_rrd h v r ∧ (∀ P, r = .inl P → P.1 ≤ tn ∧ P.2 0 = L ∧ ∃ w, ws w ∧ fl_RQ s W w P.2) ∧ ∀ e, r = .inr e → e.1 ≤ tn
theorem fl_rpin_er {e : fl_Fa} (q : fl_rpin tx tn s P = .inr e) : e.1 = P.1 := by
  unfold fl_rpin at q
  split at q
  · cases q; rfl
  · split at q
    · cases q; rfl
    · split at q
      · cases q; rfl
      · cases q
theorem fl_rpin_0 {P' : fl_Ps} (q : fl_rpin tx tn s P = .inl P') (R : fl_RQ s W w P.2) : P'.2 0 = P.2 0 := by
  have g20 := R.2.2.2.2.1.2
  unfold fl_rpin at q
  split at q
  · cases q
  · split at q
    · cases q
    · split at q
      · cases q
      · cases q
        exact fl_gp_ne (by omega)
/-- a pin more, in the middle -/
theorem fr_83m (sk : fl_sk k0 i0) {ws' : Nat → Prop} (m : fl_mdr k0 i0 tx tn s W L c12 ws h v (.inl P)) (hw : ∀ w, ws w → ws' (w + 1)) : ∃ v' y, fl_cl fl_C 83 [.ref 259, .int (Int32.ofNat L), .int (Int32.ofNat (if s = 8 then 12 else L))] h = some (some (some (.int v')), y) ∧ fl_df fl_Srf h y ∧ fl_mdr k0 i0 tx tn s W L c12 ws' y v' (fl_rpin tx tn s P) := by
  obtain ⟨hs, hg, x, c, rr, ok, -⟩ := m
  obtain ⟨pt, L0, w, ww, R⟩ := ok P rfl
  subst L0
  obtain ⟨v', y, ey, dy, cy, ry⟩ := fr_83 sk hs hg x rr.2.1 rr.2.2 R pt
  refine ⟨v', y, ey, dy, fl_df_st dy hs (fun q j z => by omega), fl_df_g hg dy, fl_xT_df x dy (by omega) (fun j => by omega), cy.trans c, ry, fun P' e => ?_, fun e q => by rw [fl_rpin_er q]; exact pt⟩
  have k := fl_rpin_ok e R
  exact ⟨by omega, fl_rpin_0 e R, w + 1, hw w ww, k.1⟩
theorem fr_84a (sk : fl_sk k0 i0) (m : fl_mdr k0 i0 tx tn s W L c12 (fun w => w = 1) h v r) (hs : 1 ≤ s ∧ s ≤ 8) (hL : L < 12) : ∃ v' y, fl_ca fl_C 84 140 [some (.ref 259), some (.int (Int32.ofNat L)), some (.int (Int32.ofNat s)), some (.int (Int32.ofNat (if s = 8 then 12 else L)))] [] [] (some (some (some (.int v)), h)) = fl_Rn fl_C 84 166 [some (.ref 259), some (.int (Int32.ofNat L)), some (.int (Int32.ofNat s)), some (.int (Int32.ofNat (if s = 8 then 12 else L))), some (.int v')] [] y ∧ fl_df fl_Srf h y ∧ fl_mdr k0 i0 tx tn s W L c12 (fun w => if fl_sgl s = true then w = 1 else w = 2) y v' (fl_bnd r (fl_rpin2 tx tn s)) := by
  have hg := m.2.1
  have t80 := m.2.2.1.1
  cases r with
  | inr e =>
    have v1 : v = -Int32.ofNat 1 - Int32.ofNat e.1 := m.2.2.2.2.1.1
    have et := m.2.2.2.2.2.2 e rfl
    refine ⟨v, h, ?_, fl_df_rfl, m.1, m.2.1, m.2.2.1, m.2.2.2.1, m.2.2.2.2.1, fun P z => (by cases z), m.2.2.2.2.2.2⟩
    have ne : (v = Int32.ofNat 0) = False := eq_false (by rw [v1]; exact fl_neg_ne _ (by omega))
    clear m v1
    generalize (if s = 8 then 12 else L) = B at *
    rw [fbP_84_140]
    simp (disch := omega) only [hg.1, fl_KM, fl_RM, fl_lit, fl_nadd, fl_nmul, fl_ndiv, fl_nsub, fl_msub, fl_nle, fl_nlt, fl_neq, fl_nclamp, fl_nin, fl_ltT, fl_ltF, fl_leT, fl_leF, fl_eqT, fl_eqF, decide_true, decide_false, Bool.true_and, Bool.and_true, Bool.false_and, Bool.and_false, if_true, if_false, Bool.false_eq_true, Option.isSome_some, Option.getD_some, not_true_eq_false, not_false_eq_true, Option.toList_some, Option.toList_none, List.cons_append, List.nil_append, ne]
  | inl P =>
    have v1 : v = Int32.ofNat 0 := m.2.2.2.2.1.1
    obtain ⟨pt, L0, w, ww, R⟩ := m.2.2.2.2.2.1 P rfl
    by_cases q2 : 3 ≤ s ∧ s ≤ 7
    · have qf : fl_sgl s = false := by
        show (decide (s = 1) || (decide (s = 2) || decide (s = 8))) = false
        rw [decide_eq_false (by omega), decide_eq_false (by omega), decide_eq_false (by omega)]; rfl
      have eb : fl_bnd (.inl P) (fl_rpin2 tx tn s) = fl_rpin tx tn s P := if_pos q2
      obtain ⟨v', y, ey, dy, my⟩ := fr_83m sk (ws' := fun w => if fl_sgl s = true then w = 1 else w = 2) m (fun w z => by subst z; rw [qf]; rfl)
      rw [eb]
      refine ⟨v', y, ?_, dy, my⟩
      subst v1
      clear m R my dy eb
      generalize (if s = 8 then 12 else L) = B at *
      rw [fbP_84_140]
      simp (disch := omega) only [hg.1, fl_KM, fl_RM, fl_lit, fl_nadd, fl_nmul, fl_ndiv, fl_nsub, fl_msub, fl_nle, fl_nlt, fl_neq, fl_nclamp, fl_nin, fl_ltT, fl_ltF, fl_leT, fl_leF, fl_eqT, fl_eqF, decide_true, decide_false, Bool.true_and, Bool.and_true, Bool.false_and, Bool.and_false, if_true, if_false, Bool.false_eq_true, Option.isSome_some, Option.getD_some, not_true_eq_false, not_false_eq_true, Option.toList_some, Option.toList_none, List.cons_append, List.nil_append, ey, fbP_84_164]
    · have qt : fl_sgl s = true := by
        show (decide (s = 1) || (decide (s = 2) || decide (s = 8))) = true
        rcases (show s = 1 ∨ s = 2 ∨ s = 8 by omega) with z | z | z <;> subst z <;> rfl
      have eb : fl_bnd (.inl P) (fl_rpin2 tx tn s) = .inl P := if_neg q2
      rw [eb]
      refine ⟨v, h, ?_, fl_df_rfl, m.1, m.2.1, m.2.2.1, m.2.2.2.1, m.2.2.2.2.1, fun P' z => by cases z; exact ⟨pt, L0, w, by rw [qt]; exact ww, R⟩, fun e z => by cases z⟩
      subst v1
      clear m R eb
      generalize (if s = 8 then 12 else L) = B at *
      by_cases s3 : s < 3
      · rw [fbP_84_140]
        simp (disch := omega) only [hg.1, fl_KM, fl_RM, fl_lit, fl_nadd, fl_nmul, fl_ndiv, fl_nsub, fl_msub, fl_nle, fl_nlt, fl_neq, fl_nclamp, fl_nin, fl_ltT, fl_ltF, fl_leT, fl_leF, fl_eqT, fl_eqF, decide_true, decide_false, Bool.true_and, Bool.and_true, Bool.false_and, Bool.and_false, if_true, if_false, Bool.false_eq_true, Option.isSome_some, Option.getD_some, not_true_eq_false, not_false_eq_true, Option.toList_some, Option.toList_none, List.cons_append, List.nil_append]
      · have s7 : 7 < s := by omega
        rw [fbP_84_140]
        simp (disch := omega) only [hg.1, fl_KM, fl_RM, fl_lit, fl_nadd, fl_nmul, fl_ndiv, fl_nsub, fl_msub, fl_nle, fl_nlt, fl_neq, fl_nclamp, fl_nin, fl_ltT, fl_ltF, fl_leT, fl_leF, fl_eqT, fl_eqF, decide_true, decide_false, Bool.true_and, Bool.and_true, Bool.false_and, Bool.and_false, if_true, if_false, Bool.false_eq_true, Option.isSome_some, Option.getD_some, not_true_eq_false, not_false_eq_true, Option.toList_some, Option.toList_none, List.cons_append, List.nil_append]
theorem fr_84b (sk : fl_sk k0 i0) (m : fl_mdr k0 i0 tx tn s W L c12 (fun w => if fl_sgl s = true then w = 1 else w = 2) h v r) (hs : 1 ≤ s ∧ s ≤ 8) (hL : L < 12) : ∃ v' y, fl_Rn fl_C 84 166 [some (.ref 259), some (.int (Int32.ofNat L)), some (.int (Int32.ofNat s)), some (.int (Int32.ofNat (if s = 8 then 12 else L))), some (.int v)] [] h = fl_Rn fl_C 84 199 [some (.ref 259), some (.int (Int32.ofNat L)), some (.int (Int32.ofNat s)), none, some (.int v')] [] y ∧ fl_df fl_Srf h y ∧ fl_mdr k0 i0 tx tn s W L c12 (fun w => if fl_sgl s = true then w = 1 else w = 2 ∨ w = 3) y v' (fl_bnd r (fl_rpin3 tx tn s)) := by
  have hg := m.2.1
  have t80 := m.2.2.1.1
  cases r with
  | inr e =>
    have v1 : v = -Int32.ofNat 1 - Int32.ofNat e.1 := m.2.2.2.2.1.1
    have et := m.2.2.2.2.2.2 e rfl
    refine ⟨v, h, ?_, fl_df_rfl, m.1, m.2.1, m.2.2.1, m.2.2.2.1, m.2.2.2.2.1, fun P z => (by cases z), m.2.2.2.2.2.2⟩
    have ne : (v = Int32.ofNat 0) = False := eq_false (by rw [v1]; exact fl_neg_ne _ (by omega))
    clear m v1
    generalize (if s = 8 then 12 else L) = B at *
    rw [fbC_84_166]
    simp (disch := omega) only [hg.1, fl_KM, fl_RM, fl_lit, fl_nadd, fl_nmul, fl_ndiv, fl_nsub, fl_msub, fl_nle, fl_nlt, fl_neq, fl_nclamp, fl_nin, fl_ltT, fl_ltF, fl_leT, fl_leF, fl_eqT, fl_eqF, decide_true, decide_false, Bool.true_and, Bool.and_true, Bool.false_and, Bool.and_false, if_true, if_false, Bool.false_eq_true, Option.isSome_some, Option.getD_some, not_true_eq_false, not_false_eq_true, Option.toList_some, Option.toList_none, List.cons_append, List.nil_append, ne]
  | inl P =>
    have v1 : v = Int32.ofNat 0 := m.2.2.2.2.1.1
    obtain ⟨pt, L0, w, ww, R⟩ := m.2.2.2.2.2.1 P rfl
    by_cases q2 : 3 ≤ s ∧ s ≤ 7
    · have qf : fl_sgl s = false := by
        show (decide (s = 1) || (decide (s = 2) || decide (s = 8))) = false
        rw [decide_eq_false (by omega), decide_eq_false (by omega), decide_eq_false (by omega)]; rfl
      have w2 : w = 2 := by rw [qf] at ww; exact ww
      have e78 := fr_78l sk m.1 hg m.2.2.1 m.2.2.2.2.1.2.1 (by omega)
      by_cases k12 : fl_ltr tx tn P.1 = 12
      · have eb : fl_bnd (.inl P) (fl_rpin3 tx tn s) = .inl P := if_neg (fun z => z.2.2 k12)
        rw [if_pos k12] at e78
        rw [eb]
        refine ⟨v, h, ?_, fl_df_rfl, m.1, m.2.1, m.2.2.1, m.2.2.2.1, m.2.2.2.2.1, fun P' z => by cases z; exact ⟨pt, L0, w, by rw [qf]; exact Or.inl w2, R⟩, fun e z => by cases z⟩
        subst v1
        have mm : (-Int32.ofNat 1 < Int32.ofNat 0) = True := eq_true (by decide)
        clear m R eb
        generalize (if s = 8 then 12 else L) = B at *
        rw [fbC_84_166]
        simp (disch := omega) only [hg.1, fl_KM, fl_RM, fl_lit, fl_nadd, fl_nmul, fl_ndiv, fl_nsub, fl_msub, fl_nle, fl_nlt, fl_neq, fl_nclamp, fl_nin, fl_ltT, fl_ltF, fl_leT, fl_leF, fl_eqT, fl_eqF, decide_true, decide_false, Bool.true_and, Bool.and_true, Bool.false_and, Bool.and_false, if_true, if_false, Bool.false_eq_true, Option.isSome_some, Option.getD_some, not_true_eq_false, not_false_eq_true, Option.toList_some, Option.toList_none, List.cons_append, List.nil_append, e78, fbP_84_188, mm]
      · have eb : fl_bnd (.inl P) (fl_rpin3 tx tn s) = fl_rpin tx tn s P := if_pos ⟨q2.1, q2.2, k12⟩
        rw [if_neg k12] at e78
        have ll := fl_ltr_le (tx := tx) (tn := tn) (a := P.1)
        obtain ⟨v', y, ey, dy, my⟩ := fr_83m sk (ws' := fun w => if fl_sgl s = true then w = 1 else w = 2 ∨ w = 3) m (fun w z => by
          rw [qf] at z ⊢
          have z2 : w = 2 := z
          subst z2
          exact Or.inr rfl)
        rw [eb]
        refine ⟨v', y, ?_, dy, my⟩
        subst v1
        clear m R my dy eb
        generalize (if s = 8 then 12 else L) = B at *
        generalize fl_ltr tx tn P.1 = K at *
        rw [fbC_84_166]
        simp (disch := omega) only [hg.1, fl_KM, fl_RM, fl_lit, fl_nadd, fl_nmul, fl_ndiv, fl_nsub, fl_msub, fl_nle, fl_nlt, fl_neq, fl_nclamp, fl_nin, fl_ltT, fl_ltF, fl_leT, fl_leF, fl_eqT, fl_eqF, decide_true, decide_false, Bool.true_and, Bool.and_true, Bool.false_and, Bool.and_false, if_true, if_false, Bool.false_eq_true, Option.isSome_some, Option.getD_some, not_true_eq_false, not_false_eq_true, Option.toList_some, Option.toList_none, List.cons_append, List.nil_append, e78, fbP_84_188, ey, fbP_84_197]
    · have qt : fl_sgl s = true := by
        show (decide (s = 1) || (decide (s = 2) || decide (s = 8))) = true
        rcases (show s = 1 ∨ s = 2 ∨ s = 8 by omega) with z | z | z <;> subst z <;> rfl
      have eb : fl_bnd (.inl P) (fl_rpin3 tx tn s) = .inl P := if_neg (fun z => q2 ⟨z.1, z.2.1⟩)
      rw [eb]
      refine ⟨v, h, ?_, fl_df_rfl, m.1, m.2.1, m.2.2.1, m.2.2.2.1, m.2.2.2.2.1, fun P' z => by cases z; exact ⟨pt, L0, w, by rw [qt] at ww ⊢; exact ww, R⟩, fun e z => by cases z⟩
      subst v1
      clear m R eb
      generalize (if s = 8 then 12 else L) = B at *
      by_cases s3 : s < 3
      · rw [fbC_84_166]
        simp (disch := omega) only [hg.1, fl_KM, fl_RM, fl_lit, fl_nadd, fl_nmul, fl_ndiv, fl_nsub, fl_msub, fl_nle, fl_nlt, fl_neq, fl_nclamp, fl_nin, fl_ltT, fl_ltF, fl_leT, fl_leF, fl_eqT, fl_eqF, decide_true, decide_false, Bool.true_and, Bool.and_true, Bool.false_and, Bool.and_false, if_true, if_false, Bool.false_eq_true, Option.isSome_some, Option.getD_some, not_true_eq_false, not_false_eq_true, Option.toList_some, Option.toList_none, List.cons_append, List.nil_append]
      · have s7 : 7 < s := by omega
        rw [fbC_84_166]
        simp (disch := omega) only [hg.1, fl_KM, fl_RM, fl_lit, fl_nadd, fl_nmul, fl_ndiv, fl_nsub, fl_msub, fl_nle, fl_nlt, fl_neq, fl_nclamp, fl_nin, fl_ltT, fl_ltF, fl_leT, fl_leF, fl_eqT, fl_eqF, decide_true, decide_false, Bool.true_and, Bool.and_true, Bool.false_and, Bool.and_false, if_true, if_false, Bool.false_eq_true, Option.isSome_some, Option.getD_some, not_true_eq_false, not_false_eq_true, Option.toList_some, Option.toList_none, List.cons_append, List.nil_append]
end
