/-! THE REFERENCE reads: outputs -/
section
variable {k0 : Nat → Nat × Nat} {i0 : Nat → Nat → Int32} {h : fl_H} {g tx : Nat → Nat} {tn a : Nat} {P : fl_Ps} {r : fl_Ps ⊕ fl_Fa} {T : Int32}
abbrev fl_Lo (k0 : Nat → Nat × Nat) (i0 : Nat → Nat → Int32) (tx : Nat → Nat) (tn : Nat) (T : Int32) (P : fl_Ps) (h : fl_H) : Prop := fl_st k0 i0 h ∧ fl_g k0 h ∧ fl_xT h tn tx ∧ fl_i h 259 5 = Int32.ofNat P.1 ∧ fl_mr h P.2 ∧ fl_RO P.2 ∧ P.1 ≤ tn ∧ ∀ c, c < 12 → fl_hi T c = fl_isO P.2 c
theorem fl_isO_gq {k c : Nat} (h4 : g 3 < 4) : fl_isO (fl_gq g k) c = (fl_isO g c || decide (c = k)) := by
  unfold fl_isO
  rw [fl_gq_at.2, fl_any, fl_gq_at.1, fl_any_congr (q' := fun j => decide (g (72 + j) = c)) (fun i hi => by rw [fl_gq_ne (by omega)])]
  rw [show decide (k = c) = decide (c = k) from decide_eq_decide.mpr ⟨fun z => z.symm, fun z => z.symm⟩]
theorem fr_85s (sk : fl_sk k0 i0) (m : fl_Lo k0 i0 tx tn T P h) : (∃ e y, fl_rout tx tn P = .inr e ∧ e.1 ≤ tn ∧ fl_Rn fl_C 85 33 [some (.ref 259), some (.int (Int32.ofNat (P.2 0))), some (.int T)] [] h = some (some (some (.int (-Int32.ofNat 1 - Int32.ofNat e.1))), y) ∧ fl_df fl_Srf h y ∧ fl_kz y e.2) ∨ ∃ P' T' y, fl_rout tx tn P = .inl P' ∧ fl_Rn fl_C 85 33 [some (.ref 259), some (.int (Int32.ofNat (P.2 0))), some (.int T)] [] h = fl_Rn fl_C 85 11 [some (.ref 259), some (.int (Int32.ofNat (P'.2 0))), some (.int T')] [] y ∧ fl_df fl_Srf h y ∧ fl_Lo k0 i0 tx tn T' P' y := by
  obtain ⟨hs, hg, x, e5, mr, I, pt, hT⟩ := m
  have t80 := x.1
  have p := I.1.1
  have g3 := I.2.2.1
  have e78 := fr_78l sk hs hg x e5 (by omega)
  have ll := fl_ltr_le (tx := tx) (tn := tn) (a := P.1)
  have m3 : fl_i h 262 507 = Int32.ofNat (P.2 3) := mr 3 (by omega)
  have n0 : (Int32.ofNat 0 ≤ -Int32.ofNat 1) = False := eq_false (by decide)
  have df' : ∀ {y : fl_H}, fl_df (fun q j => (q = 259 ∧ j = 11) ∨ q = 264 ∨ q = 265) h y → fl_df fl_Srf h y := fun d => fl_df_mo d (fun q j z => by omega)
  cases q : fl_rout tx tn P with
  | inr e =>
    left
    unfold fl_rout at q
    generalize fl_ltr tx tn P.1 = k at *
    by_cases k12 : k = 12
    · rw [if_pos k12] at q e78
      cases q
      obtain ⟨y, ey, dy, cy⟩ := fr_82 (n := 0) hg e5 (P.2 0) false (by omega) (k := 3) (by omega)
      rw [if_neg (by decide)] at ey
      refine ⟨_, y, rfl, pt, ?_, df' dy, cy⟩
      clear x mr I hs dy cy hT
      rw [fbC_85_33]
      simp (disch := omega) only [hg.1, fl_KM, fl_RM, fl_lit, fl_nadd, fl_nmul, fl_ndiv, fl_nsub, fl_msub, fl_nle, fl_nlt, fl_neq, fl_nclamp, fl_nin, fl_ltT, fl_ltF, fl_leT, fl_leF, fl_eqT, fl_eqF, decide_true, decide_false, Bool.true_and, Bool.and_true, Bool.false_and, Bool.and_false, if_true, if_false, Bool.false_eq_true, Option.isSome_some, Option.getD_some, not_true_eq_false, not_false_eq_true, Option.toList_some, Option.toList_none, List.cons_append, List.nil_append, e78, fbP_85_39, n0, ey, fbP_85_52]
    · rw [if_neg k12] at q e78
      have st := fl_hi_sar (show k < 32 by omega) T
      rw [hT k (by omega)] at st
      by_cases kb : P.2 0 ≤ k ∨ fl_isO P.2 k = true
      · rw [if_pos kb] at q
        cases q
        obtain ⟨y, ey, dy, cy⟩ := fr_82 (n := k) hg e5 (P.2 0) false (by omega) (k := 5) (by omega)
        rw [if_neg (by decide)] at ey
        refine ⟨_, y, rfl, pt, ?_, df' dy, cy⟩
        clear x mr I hs dy cy hT
        by_cases kl : P.2 0 ≤ k
        · rw [fbC_85_33]
          simp (disch := omega) only [hg.1, fl_KM, fl_RM, fl_lit, fl_nadd, fl_nmul, fl_ndiv, fl_nsub, fl_msub, fl_nle, fl_nlt, fl_neq, fl_nclamp, fl_nin, fl_ltT, fl_ltF, fl_leT, fl_leF, fl_eqT, fl_eqF, decide_true, decide_false, Bool.true_and, Bool.and_true, Bool.false_and, Bool.and_false, if_true, if_false, Bool.false_eq_true, Option.isSome_some, Option.getD_some, not_true_eq_false, not_false_eq_true, Option.toList_some, Option.toList_none, List.cons_append, List.nil_append, e78, fbP_85_39, fbC_85_67, ey, fbP_85_75]
        · have ko : fl_isO P.2 k = true := kb.resolve_left kl
          rw [if_pos ko] at st
          rw [fbC_85_33]
          simp (disch := omega) only [hg.1, fl_KM, fl_RM, fl_lit, fl_nadd, fl_nmul, fl_ndiv, fl_nsub, fl_msub, fl_nle, fl_nlt, fl_neq, fl_nclamp, fl_nin, fl_ltT, fl_ltF, fl_leT, fl_leF, fl_eqT, fl_eqF, decide_true, decide_false, Bool.true_and, Bool.and_true, Bool.false_and, Bool.and_false, if_true, if_false, Bool.false_eq_true, Option.isSome_some, Option.getD_some, not_true_eq_false, not_false_eq_true, Option.toList_some, Option.toList_none, List.cons_append, List.nil_append, e78, fbP_85_39, st, fbC_85_67, ey, fbP_85_75]
      · rw [if_neg kb] at q
        rw [if_neg (fun z => kb (Or.inr z))] at st
        have kl : k < P.2 0 := by
          by_cases z : k < P.2 0
          · exact z
          · exact absurd (Or.inl (by omega)) kb
        by_cases k4 : P.2 3 = 4
        · rw [if_pos k4] at q
          cases q
          obtain ⟨y, ey, dy, cy⟩ := fr_82 (n := 0) hg e5 (P.2 0) false (by omega) (k := 4) (by omega)
          rw [if_neg (by decide)] at ey
          refine ⟨_, y, rfl, pt, ?_, df' dy, cy⟩
          clear x mr I hs dy cy hT kb
          rw [fbC_85_33]
          simp (disch := omega) only [hg.1, hg.2, fl_KM, fl_RM, fl_lit, fl_nadd, fl_nmul, fl_ndiv, fl_nsub, fl_msub, fl_nle, fl_nlt, fl_neq, fl_nclamp, fl_nin, fl_ltT, fl_ltF, fl_leT, fl_leF, fl_eqT, fl_eqF, decide_true, decide_false, Bool.true_and, Bool.and_true, Bool.false_and, Bool.and_false, if_true, if_false, Bool.false_eq_true, Option.isSome_some, Option.getD_some, not_true_eq_false, not_false_eq_true, Option.toList_some, Option.toList_none, List.cons_append, List.nil_append, e78, fbP_85_39, st, m3, ey, fbP_85_96]
        · rw [if_neg k4] at q
          cases q
  | inl P' =>
    right
    have ok := fl_rout_ok q I
    unfold fl_rout at q
    generalize fl_ltr tx tn P.1 = k at *
    by_cases k12 : k = 12
    · rw [if_pos k12] at q; cases q
    · rw [if_neg k12] at q e78
      have st := fl_hi_sar (show k < 32 by omega) T
      rw [hT k (by omega)] at st
      by_cases kb : P.2 0 ≤ k ∨ fl_isO P.2 k = true
      · rw [if_pos kb] at q; cases q
      · rw [if_neg kb] at q
        rw [if_neg (fun z => kb (Or.inr z))] at st
        have kl : k < P.2 0 := by
          by_cases z : k < P.2 0
          · exact z
          · exact absurd (Or.inl (by omega)) kb
        by_cases k4 : P.2 3 = 4
        · rw [if_pos k4] at q; cases q
        · rw [if_neg k4] at q
          cases q
          have d0 : fl_df (fun q j => q = 259 ∧ j = 5) h (fl_wi h 259 (fl_up (fl_i h 259) 5 (Int32.ofNat (P.1 + 1)))) := fl_df_wiu fl_df_rfl ⟨rfl, rfl⟩
          have v0 : fl_i (fl_wi h 259 (fl_up (fl_i h 259) 5 (Int32.ofNat (P.1 + 1)))) 259 5 = Int32.ofNat (P.1 + 1) := by rw [fl_i_wi, if_pos rfl, fl_up_self]
          generalize q0 : fl_wi h 259 (fl_up (fl_i h 259) 5 (Int32.ofNat (P.1 + 1))) = h0 at *
          have g0 := fl_df_g hg d0
          have m0 : fl_mr h0 P.2 := fl_mr_df mr d0 (fun j => by omega)
          have u1 := fl_mr_w m0 (j := 72 + P.2 3) k
          generalize q1 : fl_wi h0 262 (fl_up (fl_i h0 262) (504 + (72 + P.2 3)) (Int32.ofNat k)) = h1 at *
          have g1 := fl_df_g g0 u1.1
          have u2 := fl_mr_w u1.2 (j := 3) (P.2 3 + 1)
          generalize q2 : fl_wi h1 262 (fl_up (fl_i h1 262) (504 + 3) (Int32.ofNat (P.2 3 + 1))) = h2 at *
          have dT : fl_df (fun q j => (q = 262 ∧ 504 ≤ j) ∨ (q = 259 ∧ j = 5)) h h2 := fl_df_tr (fl_df_mo d0 (fun q j z => Or.inr z)) (fl_df_tr (fl_df_mo u1.1 (fun q j z => Or.inl z)) (fl_df_mo u2.1 (fun q j z => Or.inl z)))
          have l0 : fl_gq P.2 k 0 = P.2 0 := fl_gq_ne (by omega)
          refine ⟨_, T ||| (Int32.ofNat 1 <<< (Int32.ofNat k &&& Int32.ofNat 31)), h2, rfl, ?_, fl_df_mo dT (fun q j z => by omega), fl_df_st dT hs (fun q j z => by omega), fl_df_g hg dT, fl_xT_df x dT (by omega) (fun j => by omega), ?_, u2.2, ok.1, by have := ok.2.1; have := ok.2.2.1; omega, fun c hc => ?_⟩
          · have a0 : fl_i h0 262 507 = Int32.ofNat (P.2 3) := m0 3 (by omega)
            have a1 : fl_i h1 262 507 = Int32.ofNat (P.2 3) := by
              have := u1.2 3 (by omega)
              rw [fl_up_ne (by omega)] at this
              exact this
            rw [show 504 + (72 + P.2 3) = 576 + P.2 3 by omega] at q1
            rw [show 504 + 3 = 507 from rfl] at q2
            dsimp only
            rw [l0]
            clear x mr I hs d0 v0 m0 u1 u2 dT hT ok kb
            rw [fbC_85_33]
            simp (disch := omega) only [fl_si_wi, hg.1, hg.2, g0.1, g0.2, g1.1, g1.2, fl_KM, fl_RM, fl_lit, fl_nadd, fl_nmul, fl_ndiv, fl_nsub, fl_msub, fl_nle, fl_nlt, fl_neq, fl_nclamp, fl_nin, fl_ltT, fl_ltF, fl_leT, fl_leF, fl_eqT, fl_eqF, decide_true, decide_false, Bool.true_and, Bool.and_true, Bool.false_and, Bool.and_false, if_true, if_false, Bool.false_eq_true, Option.isSome_some, Option.getD_some, not_true_eq_false, not_false_eq_true, Option.toList_some, Option.toList_none, List.cons_append, List.nil_append, e78, fbP_85_39, st, m3, e5, q0, fbC_85_107, a0, q1, fbC_85_131, a1, q2]
          · rw [(u2.1.2.2.2 259 5 (by omega)).1, (u1.1.2.2.2 259 5 (by omega)).1]; exact v0
          · dsimp only
            rw [fl_isO_gq (by omega), fl_hi_or, hT c hc, fl_hi_bit k (by omega) c (by omega)]
theorem fr_85l (sk : fl_sk k0 i0) : ∀ n (P : fl_Ps) (T : Int32) (h : fl_H), fl_Lo k0 i0 tx tn T P h → 1 ≤ P.2 3 → tn ≤ P.1 + n → ∃ v y, fl_Rn fl_C 85 11 [some (.ref 259), some (.int (Int32.ofNat (P.2 0))), some (.int T)] [] h = some (some (some (.int v)), y) ∧ fl_df fl_Srf h y ∧ fl_rrd y v (fl_routs tx tn n P) ∧ ∀ e, fl_routs tx tn n P = .inr e → e.1 ≤ tn
  | n, P, T, h, m, h3, hn => by
    have hg := m.2.1
    have i6 := m.2.2.1.2.1
    have t80 := m.2.2.1.1
    have e5 := m.2.2.2.1
    have m3 : fl_i h 262 507 = Int32.ofNat (P.2 3) := m.2.2.2.2.1 3 (by omega)
    have g3 := m.2.2.2.2.2.1.2.2.1
    have pt := m.2.2.2.2.2.2.1
    by_cases q : P.1 < tn
    · cases n with
      | zero => omega
      | succ n =>
        have st : fl_Rn fl_C 85 11 [some (.ref 259), some (.int (Int32.ofNat (P.2 0))), some (.int T)] [] h = fl_Rn fl_C 85 33 [some (.ref 259), some (.int (Int32.ofNat (P.2 0))), some (.int T)] [] h := by
          clear m
          rw [fbC_85_11]
          simp (disch := omega) only [hg.1, hg.2, fl_KM, fl_RM, fl_lit, fl_nadd, fl_nmul, fl_ndiv, fl_nsub, fl_msub, fl_nle, fl_nlt, fl_neq, fl_nclamp, fl_nin, fl_ltT, fl_ltF, fl_leT, fl_leF, fl_eqT, fl_eqF, decide_true, decide_false, Bool.true_and, Bool.and_true, Bool.false_and, Bool.and_false, if_true, if_false, Bool.false_eq_true, Option.isSome_some, Option.getD_some, not_true_eq_false, not_false_eq_true, Option.toList_some, Option.toList_none, List.cons_append, List.nil_append, i6, e5]
        rw [st, fl_routs, if_pos q]
        rcases fr_85s sk m with ⟨e, y, r, et, ey, dy, cy⟩ | ⟨P', T', y, r, ey, dy, my⟩
        · rw [r]
          exact ⟨_, y, ey, dy, ⟨rfl, cy⟩, fun e' z => by cases z; exact et⟩
        · have ok := fl_rout_ok r m.2.2.2.2.2.1
          obtain ⟨v, z, ez, dz, cz, bz⟩ := fr_85l sk n P' T' y my (by omega) (by omega)
          rw [r]
          exact ⟨v, z, ey.trans ez, fl_df_tr dy dz, cz, bz⟩
    · have eb : fl_routs tx tn n P = .inl P := by
        cases n with
        | zero => rfl
        | succ n => rw [fl_routs, if_neg q]
      rw [eb]
      refine ⟨Int32.ofNat 0, h, ?_, fl_df_rfl, ⟨rfl, e5, m.2.2.2.2.1⟩, fun e z => by cases z⟩
      clear m eb
      rw [fbC_85_11]
      simp (disch := omega) only [hg.1, hg.2, fl_KM, fl_RM, fl_lit, fl_nadd, fl_nmul, fl_ndiv, fl_nsub, fl_msub, fl_nle, fl_nlt, fl_neq, fl_nclamp, fl_nin, fl_ltT, fl_ltF, fl_leT, fl_leF, fl_eqT, fl_eqF, decide_true, decide_false, Bool.true_and, Bool.and_true, Bool.false_and, Bool.and_false, if_true, if_false, Bool.false_eq_true, Option.isSome_some, Option.getD_some, not_true_eq_false, not_false_eq_true, Option.toList_some, Option.toList_none, List.cons_append, List.nil_append, i6, e5, m3]
theorem fr_85 (sk : fl_sk k0 i0) (m : fl_Lo k0 i0 tx tn (Int32.ofNat 0) P h) (h3 : P.2 3 = 0) : ∃ v y, fl_cl fl_C 85 [.ref 259] h = some (some (some (.int v)), y) ∧ fl_df fl_Srf h y ∧ fl_rrd y v (fl_bnd (fl_rout tx tn P) (fl_routs tx tn 80)) ∧ ∀ e, fl_bnd (fl_rout tx tn P) (fl_routs tx tn 80) = .inr e → e.1 ≤ tn := by
  have hg := m.2.1
  have i6 := m.2.2.1.2.1
  have t80 := m.2.2.1.1
  have e5 := m.2.2.2.1
  have pt := m.2.2.2.2.2.2.1
  have m3 : fl_i h 262 507 = Int32.ofNat 0 := by rw [← h3]; exact m.2.2.2.2.1 3 (by omega)
  have m0 : fl_i h 262 504 = Int32.ofNat (P.2 0) := m.2.2.2.2.1 0 (by omega)
  have st : fl_cl fl_C 85 [.ref 259] h = fl_Rn fl_C 85 33 [some (.ref 259), some (.int (Int32.ofNat (P.2 0))), some (.int (Int32.ofNat 0))] [] h := by
    clear m h3
    by_cases q : P.1 < tn
    · rw [fbE_85]
      simp (disch := omega) only [hg.1, hg.2, fl_KM, fl_RM, fl_lit, fl_nadd, fl_nmul, fl_ndiv, fl_nsub, fl_msub, fl_nle, fl_nlt, fl_neq, fl_nclamp, fl_nin, fl_ltT, fl_ltF, fl_leT, fl_leF, fl_eqT, fl_eqF, decide_true, decide_false, Bool.true_and, Bool.and_true, Bool.false_and, Bool.and_false, if_true, if_false, Bool.false_eq_true, Option.isSome_some, Option.getD_some, not_true_eq_false, not_false_eq_true, Option.toList_some, Option.toList_none, List.cons_append, List.nil_append, m0, fbC_85_11, i6, e5]
    · rw [fbE_85]
      simp (disch := omega) only [hg.1, hg.2, fl_KM, fl_RM, fl_lit, fl_nadd, fl_nmul, fl_ndiv, fl_nsub, fl_msub, fl_nle, fl_nlt, fl_neq, fl_nclamp, fl_nin, fl_ltT, fl_ltF, fl_leT, fl_leF, fl_eqT, fl_eqF, decide_true, decide_false, Bool.true_and, Bool.and_true, Bool.false_and, Bool.and_false, if_true, if_false, Bool.false_eq_true, Option.isSome_some, Option.getD_some, not_true_eq_false, not_false_eq_true, Option.toList_some, Option.toList_none, List.cons_append, List.nil_append, m0, fbC_85_11, i6, e5, m3]
  rw [st]
  rcases fr_85s sk m with ⟨e, y, r, et, ey, dy, cy⟩ | ⟨P', T', y, r, ey, dy, my⟩
  · rw [r]
    exact ⟨_, y, ey, dy, ⟨rfl, cy⟩, fun e' z => by cases z; exact et⟩
  · have ok := fl_rout_ok r m.2.2.2.2.2.1
    obtain ⟨v, z, ez, dz, cz, bz⟩ := fr_85l sk 80 P' T' y my (by omega) (by omega)
    rw [r]
    exact ⟨v, z, ey.trans ez, fl_df_tr dy dz, cz, bz⟩
end
