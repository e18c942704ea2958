/-! THE REFERENCE reads: a pin -/
def fl_rrd (h : fl_H) (v : Int32) (r : fl_Ps ⊕ fl_Fa) : Prop := match r with
  | .inl P => v = Int32.ofNat 0 ∧ fl_i h 259 5 = Int32.ofNat P.1 ∧ fl_mr h P.2
  | .inr e => v = -Int32.ofNat 1 - Int32.ofNat e.1 ∧ fl_kz h e.2
section
variable {k0 : Nat → Nat × Nat} {i0 : Nat → Nat → Int32} {h : fl_H} {g tx : Nat → Nat} {tn a s W w : Nat} {P : fl_Ps} {r : fl_Ps ⊕ fl_Fa}
theorem fl_xT_df {S : Nat → Nat → Prop} {y : fl_H} (x : fl_xT h tn tx) (f : fl_df S h y) (z1 : ¬ S 259 6) (z2 : ∀ j, ¬ S 261 j) : fl_xT y tn tx := ⟨x.1, by rw [(f.2.2.2 _ _ z1).1]; exact x.2.1, fun j hj => by rw [(f.2.2.2 261 j (z2 j)).1]; exact x.2.2 j hj⟩
theorem fl_mr_df {S : Nat → Nat → Prop} {y : fl_H} (m : fl_mr h g) (f : fl_df S h y) (z : ∀ j, ¬ S 262 j) : fl_mr y g := fun j hj => by rw [(f.2.2.2 262 _ (z _)).1]; exact m j hj
/-- a cell of what is read, written -/
theorem fl_mr_w (m : fl_mr h g) {j : Nat} (v : Nat) : fl_df (fun q i => q = 262 ∧ 504 ≤ i) h (fl_wi h 262 (fl_up (fl_i h 262) (504 + j) (Int32.ofNat v))) ∧ fl_mr (fl_wi h 262 (fl_up (fl_i h 262) (504 + j) (Int32.ofNat v))) (fl_up g j v) := by
  refine ⟨fl_df_wiu fl_df_rfl ⟨rfl, by omega⟩, fun i hi => ?_⟩
  rw [fl_i_wi, if_pos rfl]
  by_cases q : i = j
  · subst q
    rw [fl_up_self, fl_up_self]
  · rw [fl_up_ne (by omega), fl_up_ne q]
    exact m i hi
theorem fr_78l (sk : fl_sk k0 i0) (hs : fl_st k0 i0 h) (hg : fl_g k0 h) (x : fl_xT h tn tx) (e5 : fl_i h 259 5 = Int32.ofNat a) (ha : a < 900) : fl_cl fl_C 78 [.ref 259, .ref 1048579] h = some (some (some (.int (if fl_ltr tx tn a = 12 then -Int32.ofNat 1 else Int32.ofNat (fl_ltr tx tn a)))), h) := by
  have e := fr_78 sk hs hg x e5 ha (i := 3) (by omega)
  rw [show 1048576 + 3 = 1048579 from rfl] at e
  rw [e]
  unfold fl_ltr
  by_cases q : a < tn
  · have t := (x.2.2 a q).1
    rw [if_pos q, fl_ix3 _ t]
    by_cases q2 : 97 ≤ tx a ∧ tx a < 109
    · have lv : (if a < tn ∧ 97 ≤ tx a ∧ tx a < 109 then tx a - 97 else 12) = tx a - 97 := if_pos ⟨q, q2⟩
      rw [lv, if_pos q2, if_neg (by omega)]
    · have lv : (if a < tn ∧ 97 ≤ tx a ∧ tx a < 109 then tx a - 97 else 12) = 12 := if_neg (fun z => q2 z.2)
      rw [lv, if_neg q2, if_pos rfl]
  · have lv : (if a < tn ∧ 97 ≤ tx a ∧ tx a < 109 then tx a - 97 else 12) = 12 := if_neg (fun z => q z.1)
    rw [lv, if_neg q, if_pos rfl]
theorem fr_83 (sk : fl_sk k0 i0) (hs : fl_st k0 i0 h) (hg : fl_g k0 h) (x : fl_xT h tn tx) (e5 : fl_i h 259 5 = Int32.ofNat P.1) (m : fl_mr h P.2) (R : fl_RQ s W w P.2) (pt : P.1 ≤ tn) : ∃ v y, fl_cl fl_C 83 [.ref 259, .int (Int32.ofNat (P.2 0)), .int (Int32.ofNat (if s = 8 then 12 else P.2 0))] h = some (some (some (.int v)), y) ∧ fl_df fl_Srf h y ∧ fl_i y 259 12 = fl_i h 259 12 ∧ fl_rrd y v (fl_rpin tx tn s P) := by
  have t80 := x.1
  have e78 := fr_78l sk hs hg x e5 (by omega)
  have g12 : P.2 0 < 12 := R.2.2.2.1
  have g20 : P.2 2 ≤ 20 := R.2.2.2.2.1.2
  have w3 := R.1.1
  have wb := R.2.1.1 (28 + P.2 0) (by omega)
  have ll := fl_ltr_le (tx := tx) (tn := tn) (a := P.1)
  have m2 : fl_i h 262 506 = Int32.ofNat (P.2 2) := m 2 (by omega)
  have n0 : (Int32.ofNat 0 ≤ -Int32.ofNat 1) = False := eq_false (by decide)
  unfold fl_rpin
  generalize fl_ltr tx tn P.1 = k at *
  have df' : ∀ {y : fl_H}, fl_df (fun q j => (q = 259 ∧ j = 11) ∨ q = 264 ∨ q = 265) h y → fl_df fl_Srf h y ∧ fl_i y 259 12 = fl_i h 259 12 := fun d => ⟨fl_df_mo d (fun q j z => by omega), (d.2.2.2 259 12 (by omega)).1⟩
  by_cases k12 : k = 12
  · rw [if_pos k12] at e78 ⊢
    obtain ⟨y, ey, dy, cy⟩ := fr_82 (n := 0) hg e5 (P.2 0) true (by omega) (k := 3) (by omega)
    rw [if_pos rfl] at ey
    refine ⟨_, y, ?_, (df' dy).1, (df' dy).2, rfl, cy⟩
    clear x m R dy cy hs
    generalize (if s = 8 then 12 else P.2 0) = B at *
    rw [fbE_83]
    simp (disch := omega) only [hg.1, fl_KM, fl_RM, fl_lit, fl_nadd, fl_nmul, fl_ndiv, fl_nsub, fl_msub, fl_nle, fl_nlt, fl_neq, fl_nclamp, fl_nin, fl_ltT, fl_ltF, fl_leT, fl_leF, fl_eqT, fl_eqF, decide_true, decide_false, Bool.true_and, Bool.and_true, Bool.false_and, Bool.and_false, if_true, if_false, Bool.false_eq_true, Option.isSome_some, Option.getD_some, not_true_eq_false, not_false_eq_true, Option.toList_some, Option.toList_none, List.cons_append, List.nil_append, e78, fbP_83_6, n0, ey, fbP_83_19]
  · rw [if_neg k12] at e78 ⊢
    by_cases kb : s ≠ 8 ∧ P.2 0 ≤ k
    · rw [if_pos kb]
      obtain ⟨y, ey, dy, cy⟩ := fr_82 (n := k) hg e5 (P.2 0) true (by omega) (k := 5) (by omega)
      rw [if_pos rfl] at ey
      refine ⟨_, y, ?_, (df' dy).1, (df' dy).2, rfl, cy⟩
      rw [if_neg kb.1]
      clear x m R dy cy hs
      rw [fbE_83]
      simp (disch := omega) only [hg.1, fl_KM, fl_RM, fl_lit, fl_nadd, fl_nmul, fl_ndiv, fl_nsub, fl_msub, fl_nle, fl_nlt, fl_neq, fl_nclamp, fl_nin, fl_ltT, fl_ltF, fl_leT, fl_leF, fl_eqT, fl_eqF, decide_true, decide_false, Bool.true_and, Bool.and_true, Bool.false_and, Bool.and_false, if_true, if_false, Bool.false_eq_true, Option.isSome_some, Option.getD_some, not_true_eq_false, not_false_eq_true, Option.toList_some, Option.toList_none, List.cons_append, List.nil_append, e78, fbP_83_6, ey, fbP_83_33]
    · rw [if_neg kb]
      have kB : k < (if s = 8 then 12 else P.2 0) := by split <;> omega
      have bB : (if s = 8 then 12 else P.2 0) ≤ 12 := by split <;> omega
      generalize (if s = 8 then 12 else P.2 0) = B at *
      by_cases k20 : P.2 2 = 20
      · rw [if_pos k20]
        obtain ⟨y, ey, dy, cy⟩ := fr_82 (n := 0) hg e5 (P.2 0) true (by omega) (k := 4) (by omega)
        rw [if_pos rfl] at ey
        refine ⟨_, y, ?_, (df' dy).1, (df' dy).2, rfl, cy⟩
        clear x m R dy cy hs
        rw [fbE_83]
        simp (disch := omega) only [hg.1, hg.2, fl_KM, fl_RM, fl_lit, fl_nadd, fl_nmul, fl_ndiv, fl_nsub, fl_msub, fl_nle, fl_nlt, fl_neq, fl_nclamp, fl_nin, fl_ltT, fl_ltF, fl_leT, fl_leF, fl_eqT, fl_eqF, decide_true, decide_false, Bool.true_and, Bool.and_true, Bool.false_and, Bool.and_false, if_true, if_false, Bool.false_eq_true, Option.isSome_some, Option.getD_some, not_true_eq_false, not_false_eq_true, Option.toList_some, Option.toList_none, List.cons_append, List.nil_append, e78, fbP_83_6, m2, ey, fbP_83_55]
      · rw [if_neg k20]
        have d0 : fl_df (fun q j => q = 259 ∧ j = 5) h (fl_wi h 259 (fl_up (fl_i h 259) 5 (Int32.ofNat (P.1 + 1)))) := fl_df_wiu fl_df_rfl ⟨rfl, rfl⟩
        have v0 : fl_i (fl_wi h 259 (fl_up (fl_i h 259) 5 (Int32.ofNat (P.1 + 1)))) 259 5 = Int32.ofNat (P.1 + 1) := by rw [fl_i_wi, if_pos rfl, fl_up_self]
        generalize q0 : fl_wi h 259 (fl_up (fl_i h 259) 5 (Int32.ofNat (P.1 + 1))) = h0 at *
        have g0 := fl_df_g hg d0
        have m0 : fl_mr h0 P.2 := fl_mr_df m d0 (fun j => by omega)
        have u1 := fl_mr_w m0 (j := 52 + P.2 2) k
        generalize q1 : fl_wi h0 262 (fl_up (fl_i h0 262) (504 + (52 + P.2 2)) (Int32.ofNat k)) = h1 at *
        have g1 := fl_df_g g0 u1.1
        have u2 := fl_mr_w u1.2 (j := 2) (P.2 2 + 1)
        generalize q2 : fl_wi h1 262 (fl_up (fl_i h1 262) (504 + 2) (Int32.ofNat (P.2 2 + 1))) = h2 at *
        have g2 := fl_df_g g1 u2.1
        have u3 := fl_mr_w u2.2 (j := 28 + P.2 0) (P.2 (28 + P.2 0) + 1)
        generalize q3 : fl_wi h2 262 (fl_up (fl_i h2 262) (504 + (28 + P.2 0)) (Int32.ofNat (P.2 (28 + P.2 0) + 1))) = h3 at *
        have dT : fl_df (fun q j => (q = 262 ∧ 504 ≤ j) ∨ (q = 259 ∧ j = 5)) h h3 := fl_df_tr (fl_df_mo d0 (fun q j z => Or.inr z)) (fl_df_tr (fl_df_mo u1.1 (fun q j z => Or.inl z)) (fl_df_tr (fl_df_mo u2.1 (fun q j z => Or.inl z)) (fl_df_mo u3.1 (fun q j z => Or.inl z))))
        refine ⟨_, h3, ?_, fl_df_mo dT (fun q j z => by omega), (dT.2.2.2 259 12 (by omega)).1, rfl, ?_, u3.2⟩
        · have a0 : fl_i h0 262 506 = Int32.ofNat (P.2 2) := m0 2 (by omega)
          have a1 : fl_i h1 262 506 = Int32.ofNat (P.2 2) := by
            have := u1.2 2 (by omega)
            rw [fl_up_ne (by omega)] at this
            exact this
          have a2 : fl_i h2 262 (532 + P.2 0) = Int32.ofNat (P.2 (28 + P.2 0)) := by
            have := u2.2 (28 + P.2 0) (by omega)
            rw [fl_up_ne (by omega), fl_up_ne (by omega)] at this
            rw [show 504 + (28 + P.2 0) = 532 + P.2 0 by omega] at this
            exact this
          rw [show 504 + (52 + P.2 2) = 556 + P.2 2 by omega] at q1
          rw [show 504 + 2 = 506 from rfl] at q2
          rw [show 504 + (28 + P.2 0) = 532 + P.2 0 by omega] at q3
          clear x m R hs d0 v0 m0 u1 u2 u3 dT
          generalize P.2 (28 + P.2 0) = WW at *
          generalize P.2 0 = LL at *
          generalize P.2 2 = PP at *
          rw [fbE_83]
          simp (disch := omega) only [fl_si_wi, hg.1, hg.2, g0.1, g0.2, g1.1, g1.2, g2.1, g2.2, fl_KM, fl_RM, fl_lit, fl_nadd, fl_nmul, fl_ndiv, fl_nsub, fl_msub, fl_nle, fl_nlt, fl_neq, fl_nclamp, fl_nin, fl_ltT, fl_ltF, fl_leT, fl_leF, fl_eqT, fl_eqF, decide_true, decide_false, Bool.true_and, Bool.and_true, Bool.false_and, Bool.and_false, if_true, if_false, Bool.false_eq_true, Option.isSome_some, Option.getD_some, not_true_eq_false, not_false_eq_true, Option.toList_some, Option.toList_none, List.cons_append, List.nil_append, e78, fbP_83_6, m2, e5, q0, fbC_83_66, a0, q1, fbC_83_84, a1, q2, fbC_83_96, a2, q3, fbC_83_110]
        · rw [(u3.1.2.2.2 259 5 (by omega)).1, (u2.1.2.2.2 259 5 (by omega)).1, (u1.1.2.2.2 259 5 (by omega)).1]
          exact v0
end
