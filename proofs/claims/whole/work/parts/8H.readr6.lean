/-! THE REFERENCE reads: whole -/
section
variable {k0 : Nat → Nat × Nat} {i0 : Nat → Nat → Int32} {h : fl_H} {g tx : Nat → Nat} {tn a : Nat} {P : fl_Ps} {r : fl_Ps ⊕ fl_Fa} {T : Int32}
abbrev fl_Ll (k0 : Nat → Nat × Nat) (i0 : Nat → Nat → Int32) (tx : Nat → Nat) (tn : Nat) (P : fl_Ps) (h : fl_H) : Prop := fl_st k0 i0 h ∧ fl_g k0 h ∧ fl_xT h tn tx ∧ fl_i h 259 5 = Int32.ofNat P.1 ∧ fl_mr h P.2 ∧ fl_i h 259 12 = Int32.ofNat (fl_rgs P.2) ∧ fl_RI P.2 ∧ P.1 ≤ tn
theorem fr_86l (sk : fl_sk k0 i0) : ∀ n (P : fl_Ps) (h : fl_H), fl_Ll k0 i0 tx tn P h → tn ≤ P.1 + n → (∃ e y, fl_rlines tx tn n P = .inr e ∧ fl_Rn fl_C 86 94 [some (.ref 259)] [] h = some (some (some (.int (-Int32.ofNat 1 - Int32.ofNat e.1))), y) ∧ fl_df fl_Srf h y ∧ fl_kz y e.2 ∧ e.1 ≤ tn) ∨ ∃ P' y, fl_rlines tx tn n P = .inl P' ∧ fl_Rn fl_C 86 94 [some (.ref 259)] [] h = fl_ca fl_C 86 123 [some (.ref 259)] [] [] (fl_cl fl_C 80 [.ref 259, .ref 1048581] y) ∧ fl_df fl_Srf h y ∧ fl_Ll k0 i0 tx tn P' y
  | n, P, h, m, hn => by
    obtain ⟨hs, hg, x, e5, mr, c12, I, pt⟩ := m
    have t80 := x.1
    have t := fr_80 sk hs hg x e5 (by omega) (i := 2) (by omega)
    rw [show 1048576 + 2 = 1048578 from rfl] at t
    by_cases q : P.1 < tn ∧ tx P.1 = 59
    · cases n with
      | zero => omega
      | succ n =>
        obtain ⟨y, ey, dy, y5⟩ := t.1 0 (by omega) q.1 (by rw [fl_ix2 _ (x.2.2 P.1 q.1).1, if_pos q.2])
        have gy := fl_df_g hg dy
        obtain ⟨v, z, ez, dz, rz, cz, bz⟩ := fr_84 (P := (P.1 + 1, P.2)) sk (fl_df_st dy hs (fun q j z => by omega)) gy (fl_xT_df x dy (by omega) (fun j => by omega)) y5 (fl_mr_df mr dy (fun j => by omega)) (by rw [(dy.2.2.2 259 12 (by omega)).1]; exact c12) I (by dsimp only; omega)
        have gz := fl_df_g gy dz
        have dT : fl_df fl_Srf h z := fl_df_tr (fl_df_mo dy (fun q j z => by omega)) dz
        have st : fl_Rn fl_C 86 94 [some (.ref 259)] [] h = fl_ca fl_C 86 107 [some (.ref 259)] [] [] (some (some (some (.int v)), z)) := by
          clear x mr I t hs dy dz rz cz bz dT
          rw [fbC_86_94]
          simp (disch := omega) only [hg.1, gy.1, fl_KM, fl_RM, fl_lit, fl_nadd, fl_nmul, fl_ndiv, fl_nsub, fl_msub, fl_nle, fl_nlt, fl_neq, fl_nclamp, fl_nin, fl_ltT, fl_ltF, fl_leT, fl_leF, fl_eqT, fl_eqF, decide_true, decide_false, Bool.true_and, Bool.and_true, Bool.false_and, Bool.and_false, if_true, if_false, Bool.false_eq_true, Option.isSome_some, Option.getD_some, not_true_eq_false, not_false_eq_true, Option.toList_some, Option.toList_none, List.cons_append, List.nil_append, ey, fbP_86_100, ez]
        rw [st, fl_rlines, if_pos q]
        cases w : fl_rline tx tn (P.1 + 1, P.2) with
        | inr e =>
          left
          rw [w] at rz
          have v1 : v = -Int32.ofNat 1 - Int32.ofNat e.1 := rz.1
          have et := bz e w
          refine ⟨e, z, rfl, ?_, dT, rz.2, et⟩
          have ne : (Int32.ofNat 0 ≤ v) = False := eq_false (by rw [v1]; exact fl_neg_le _ (by omega))
          rw [← v1]
          clear x mr I t hs dy dz rz cz bz dT v1 st
          rw [fbP_86_107]
          simp (disch := omega) only [gz.1, fl_KM, fl_RM, fl_lit, fl_nadd, fl_nmul, fl_ndiv, fl_nsub, fl_msub, fl_nle, fl_nlt, fl_neq, fl_nclamp, fl_nin, fl_ltT, fl_ltF, fl_leT, fl_leF, fl_eqT, fl_eqF, decide_true, decide_false, Bool.true_and, Bool.and_true, Bool.false_and, Bool.and_false, if_true, if_false, Bool.false_eq_true, Option.isSome_some, Option.getD_some, not_true_eq_false, not_false_eq_true, Option.toList_some, Option.toList_none, List.cons_append, List.nil_append, ne]
        | inl P1 =>
          rw [w] at rz
          have v1 : v = Int32.ofNat 0 := rz.1
          have k := fl_rline_ok w I
          have k2 := k.2.2
          dsimp only at k2
          have ih := fr_86l sk n P1 z ⟨fl_df_st dT hs (fun q j z => by omega), gz, fl_xT_df x dT (by omega) (fun j => by omega), rz.2.1, rz.2.2, cz P1 w, k.1, k.2.1⟩ (by omega)
          have s2 : fl_ca fl_C 86 107 [some (.ref 259)] [] [] (some (some (some (.int v)), z)) = fl_Rn fl_C 86 94 [some (.ref 259)] [] z := by
            rw [v1]
            clear x mr I t hs dy dz rz cz bz dT v1 st ih
            rw [fbP_86_107]
            simp (disch := omega) only [gz.1, fl_KM, fl_RM, fl_lit, fl_nadd, fl_nmul, fl_ndiv, fl_nsub, fl_msub, fl_nle, fl_nlt, fl_neq, fl_nclamp, fl_nin, fl_ltT, fl_ltF, fl_leT, fl_leF, fl_eqT, fl_eqF, decide_true, decide_false, Bool.true_and, Bool.and_true, Bool.false_and, Bool.and_false, if_true, if_false, Bool.false_eq_true, Option.isSome_some, Option.getD_some, not_true_eq_false, not_false_eq_true, Option.toList_some, Option.toList_none, List.cons_append, List.nil_append]
          rw [s2]
          rcases ih with ⟨e, y', r1, r2, r3, r4⟩ | ⟨P', y', r1, r2, r3, r4⟩
          · exact Or.inl ⟨e, y', r1, r2, fl_df_tr dT r3, r4⟩
          · exact Or.inr ⟨P', y', r1, r2, fl_df_tr dT r3, r4⟩
    · right
      have eb : fl_rlines tx tn n P = .inl P := by
        cases n with
        | zero => rfl
        | succ n => rw [fl_rlines, if_neg q]
      obtain ⟨y, ey, dy, y5⟩ := t.2 (fun z => by rw [fl_ix2 _ (x.2.2 P.1 z).1, if_neg (fun z2 => q ⟨z, z2⟩)])
      have gy := fl_df_g hg dy
      refine ⟨P, y, eb, ?_, fl_df_mo dy (fun q j z => by omega), fl_df_st dy hs (fun q j z => by omega), gy, fl_xT_df x dy (by omega) (fun j => by omega), y5, fl_mr_df mr dy (fun j => by omega), by rw [(dy.2.2.2 259 12 (by omega)).1]; exact c12, I, pt⟩
      have mm : (-Int32.ofNat 1 = Int32.ofNat 0) = False := eq_false (by decide)
      clear x mr I t hs dy eb
      rw [fbC_86_94]
      simp (disch := omega) only [hg.1, gy.1, fl_KM, fl_RM, fl_lit, fl_nadd, fl_nmul, fl_ndiv, fl_nsub, fl_msub, fl_nle, fl_nlt, fl_neq, fl_nclamp, fl_nin, fl_ltT, fl_ltF, fl_leT, fl_leF, fl_eqT, fl_eqF, decide_true, decide_false, Bool.true_and, Bool.and_true, Bool.false_and, Bool.and_false, if_true, if_false, Bool.false_eq_true, Option.isSome_some, Option.getD_some, not_true_eq_false, not_false_eq_true, Option.toList_some, Option.toList_none, List.cons_append, List.nil_append, ey, fbP_86_100, mm]
/-- registers asked -/
theorem fr_86q (hg : fl_g k0 h) (mr : fl_mr h g) (I : fl_RO g) : ∃ y, fl_df fl_Srf h y ∧ (if fl_any (fl_far g) (g 0) = true then fl_Rn fl_C 86 155 [some (.ref 259), none, none, some (.int (Int32.ofNat 0))] [] h = some (some (some (.int (-Int32.ofNat 200))), y) ∧ fl_kz y (fl_toofar g) else fl_Rn fl_C 86 155 [some (.ref 259), none, none, some (.int (Int32.ofNat 0))] [] h = some (some (some (.int (Int32.ofNat 0))), h) ∧ y = h) := by
  have p := I.1.1
  have m0 : fl_i h 262 504 = Int32.ofNat (g 0) := mr 0 (by omega)
  have stp : ∀ k, k < g 0 → fl_Rn fl_C 86 155 [some (.ref 259), none, none, some (.int (Int32.ofNat k))] [] h = (if fl_far g k = true then (fl_Rn fl_C 86 221 [some (.ref 259), none, none, some (.int (Int32.ofNat k)), some (.int (Int32.ofNat (g (52 + g (16 + k)))))] [] (fl_wi h 259 (fl_up (fl_i h 259) 11 (Int32.ofNat 0)))) else fl_Rn fl_C 86 155 [some (.ref 259), none, none, some (.int (Int32.ofNat (k + 1)))] [] h) := fun k hk => by
    have a1 : fl_i h 262 (520 + k) = Int32.ofNat (g (16 + k)) := by
      have := mr (16 + k) (by omega)
      rw [show 504 + (16 + k) = 520 + k by omega] at this
      exact this
    have a3 : fl_i h 262 (508 + k) = Int32.ofNat (g (4 + k)) := by
      have := mr (4 + k) (by omega)
      rw [show 504 + (4 + k) = 508 + k by omega] at this
      exact this
    have f20 : g (16 + k) ≤ 20 := by
      by_cases l : k < g 1
      · have := (I.1.2.1 k l).2.1; omega
      · have := I.1.2.2.1 k (by omega) hk; omega
    have a2 : fl_i h 262 (556 + g (16 + k)) = Int32.ofNat (g (52 + g (16 + k))) := by
      have := mr (52 + g (16 + k)) (by omega)
      rw [show 504 + (52 + g (16 + k)) = 556 + g (16 + k) by omega] at this
      exact this
    have b1 := I.2.1.1 (52 + g (16 + k)) (by omega)
    have b2 := I.2.1.1 (4 + k) (by omega)
    unfold fl_far
    clear mr I
    generalize g (52 + g (16 + k)) = V at *
    generalize g (16 + k) = F at *
    generalize g (4 + k) = S at *
    by_cases s8 : S = 8
    · by_cases f : g 0 ≤ V
      · rw [decide_eq_true s8, decide_eq_true f, Bool.true_and, if_pos rfl, fbC_86_155]
        simp (disch := omega) only [fl_si_wi, hg.1, hg.2, fl_KM, fl_RM, fl_lit, fl_nadd, fl_nmul, fl_ndiv, fl_nsub, fl_msub, fl_nle, fl_nlt, fl_neq, fl_nclamp, fl_nin, fl_ltT, fl_ltF, fl_leT, fl_leF, fl_eqT, fl_eqF, decide_true, decide_false, Bool.true_and, Bool.and_true, Bool.false_and, Bool.and_false, if_true, if_false, Bool.false_eq_true, Option.isSome_some, Option.getD_some, not_true_eq_false, not_false_eq_true, Option.toList_some, Option.toList_none, List.cons_append, List.nil_append, m0, a1, fbC_86_183, a2, fbC_86_185, a3, fbC_86_197]
      · rw [decide_eq_true s8, decide_eq_false f, if_neg (by decide), fbC_86_155]
        simp (disch := omega) only [hg.1, hg.2, fl_KM, fl_RM, fl_lit, fl_nadd, fl_nmul, fl_ndiv, fl_nsub, fl_msub, fl_nle, fl_nlt, fl_neq, fl_nclamp, fl_nin, fl_ltT, fl_ltF, fl_leT, fl_leF, fl_eqT, fl_eqF, decide_true, decide_false, Bool.true_and, Bool.and_true, Bool.false_and, Bool.and_false, if_true, if_false, Bool.false_eq_true, Option.isSome_some, Option.getD_some, not_true_eq_false, not_false_eq_true, Option.toList_some, Option.toList_none, List.cons_append, List.nil_append, m0, a1, fbC_86_183, a2, fbC_86_185, a3, fbC_86_197, fbC_86_251]
    · rw [decide_eq_false s8, Bool.false_and, if_neg (by decide), fbC_86_155]
      simp (disch := omega) only [hg.1, hg.2, fl_KM, fl_RM, fl_lit, fl_nadd, fl_nmul, fl_ndiv, fl_nsub, fl_msub, fl_nle, fl_nlt, fl_neq, fl_nclamp, fl_nin, fl_ltT, fl_ltF, fl_leT, fl_leF, fl_eqT, fl_eqF, decide_true, decide_false, Bool.true_and, Bool.and_true, Bool.false_and, Bool.and_false, if_true, if_false, Bool.false_eq_true, Option.isSome_some, Option.getD_some, not_true_eq_false, not_false_eq_true, Option.toList_some, Option.toList_none, List.cons_append, List.nil_append, m0, a1, fbC_86_183, a2, fbC_86_185, a3, fbC_86_197, fbC_86_251]
  have lp := fl_findN (fun k => fl_Rn fl_C 86 155 [some (.ref 259), none, none, some (.int (Int32.ofNat k))] [] h) (fun k => fl_Rn fl_C 86 221 [some (.ref 259), none, none, some (.int (Int32.ofNat k)), some (.int (Int32.ofNat (g (52 + g (16 + k)))))] [] (fl_wi h 259 (fl_up (fl_i h 259) 11 (Int32.ofNat 0)))) (fl_far g) (g 0) stp
  by_cases q : fl_any (fl_far g) (g 0) = true
  · rw [if_pos q] at lp
    have sp := fl_frst_sp q
    have d0 : fl_df fl_Srf h (fl_wi h 259 (fl_up (fl_i h 259) 11 (Int32.ofNat 0))) := fl_df_wiu fl_df_rfl (by omega)
    have z0 : fl_kz (fl_wi h 259 (fl_up (fl_i h 259) 11 (Int32.ofNat 0))) [] := ⟨by rw [fl_i_wi, if_pos rfl, fl_up_self]; rfl, fun j hj => absurd hj (Nat.not_lt_zero j)⟩
    have l0 : fl_i (fl_wi h 259 (fl_up (fl_i h 259) 11 (Int32.ofNat 0))) 262 504 = Int32.ofNat (g 0) := by rw [fl_i_wi, if_neg (by decide)]; exact m0
    generalize fl_wi h 259 (fl_up (fl_i h 259) 11 (Int32.ofNat 0)) = h0 at *
    have g0 := fl_df_g hg d0
    obtain ⟨h1, e1, d1, z1⟩ := fr_81 g0 z0 (by decide) 1 (g 0)
    have g1 := fl_df_g g0 d1
    obtain ⟨h2, e2, d2, z2⟩ := fr_81 g1 z1 (show 1 < 4 by decide) 2 (fl_frst (fl_far g) (g 0))
    have g2 := fl_df_g g1 d2
    obtain ⟨h3, e3, d3, z3⟩ := fr_81 g2 z2 (show 2 < 4 by decide) 5 (g (52 + g (16 + fl_frst (fl_far g) (g 0))))
    refine ⟨h3, fl_df_tr d0 (fl_df_tr (fl_df_mo d1 (fun q j z => by omega)) (fl_df_tr (fl_df_mo d2 (fun q j z => by omega)) (fl_df_mo d3 (fun q j z => by omega)))), ?_⟩
    rw [if_pos q]
    refine ⟨lp.trans ?_, z3⟩
    clear stp lp mr I d0 z0 d1 z1 d2 z2 d3 z3 sp
    generalize g (52 + g (16 + fl_frst (fl_far g) (g 0))) = V at *
    generalize fl_frst (fl_far g) (g 0) = F at *
    rw [fbC_86_221]
    simp (disch := omega) only [g0.1, g0.2, g1.1, g2.1, fl_KM, fl_RM, fl_lit, fl_nadd, fl_nmul, fl_ndiv, fl_nsub, fl_msub, fl_nle, fl_nlt, fl_neq, fl_nclamp, fl_nin, fl_ltT, fl_ltF, fl_leT, fl_leF, fl_eqT, fl_eqF, decide_true, decide_false, Bool.true_and, Bool.and_true, Bool.false_and, Bool.and_false, if_true, if_false, Bool.false_eq_true, Option.isSome_some, Option.getD_some, not_true_eq_false, not_false_eq_true, Option.toList_some, Option.toList_none, List.cons_append, List.nil_append, l0, e1, fbP_86_234, e2, fbP_86_240, e3, fbP_86_247]
  · rw [if_neg q] at lp
    refine ⟨h, fl_df_rfl, ?_⟩
    rw [if_neg q]
    refine ⟨lp.trans ?_, rfl⟩
    clear stp lp mr I
    rw [fbC_86_155]
    simp (disch := omega) only [hg.1, hg.2, fl_KM, fl_RM, fl_lit, fl_nadd, fl_nmul, fl_ndiv, fl_nsub, fl_msub, fl_nle, fl_nlt, fl_neq, fl_nclamp, fl_nin, fl_ltT, fl_ltF, fl_leT, fl_leF, fl_eqT, fl_eqF, decide_true, decide_false, Bool.true_and, Bool.and_true, Bool.false_and, Bool.and_false, if_true, if_false, Bool.false_eq_true, Option.isSome_some, Option.getD_some, not_true_eq_false, not_false_eq_true, Option.toList_some, Option.toList_none, List.cons_append, List.nil_append, m0]
end
