/-! THE REFERENCE reads: a net, whole -/
section
variable {k0 : Nat → Nat × Nat} {i0 : Nat → Nat → Int32} {h : fl_H} {g tx : Nat → Nat} {tn a : Nat} {P : fl_Ps} {r : fl_Ps ⊕ fl_Fa} {T : Int32}
/-- what is read is cleared; the inputs -/
theorem fr_86z (hg : fl_g k0 h) : ∃ y, fl_cl fl_C 86 [.ref 259] h = fl_Rn fl_C 86 30 [some (.ref 259)] [] y ∧ fl_df fl_Srf h y ∧ fl_mr y (fun _ => 0) ∧ fl_i y 259 12 = Int32.ofNat 0 ∧ fl_i y 259 5 = fl_i h 259 5 := by
  have lp := fl_iter (fun k => fl_Rn fl_C 86 2 [some (.ref 259), some (.int (Int32.ofNat k))] [] (fl_wi h 262 (fl_seg 504 k (fun _ => Int32.ofNat 0) (fl_i h 262)))) 126 (by
    intro k hk
    try dsimp only
    have e := fl_seg_succ (a := 504) (k := k) (f := fun _ => Int32.ofNat 0) (old := fl_i h 262) (x := Int32.ofNat 0) rfl
    rw [fbC_86_2]
    simp (disch := omega) only [fl_k_wl, fl_r_wl, fl_i_wl, fl_l_wl, fl_1_wl, fl_k_wi, fl_r_wi, fl_l_wi, fl_1_wi, fl_i_wi, fl_k_si, fl_r_si, fl_l_si, fl_k_sl, fl_r_sl, fl_i_sl, fl_up_self, fl_up_ne, fl_si_wi, fl_sl_wl, fl_wi_wi, fl_wl_wl, hg.1, hg.2, fl_KM, fl_RM, fl_lit, fl_nadd, fl_nmul, fl_ndiv, fl_nsub, fl_msub, fl_nle, fl_nlt, fl_neq, fl_nclamp, fl_nin, fl_ltT, fl_ltF, fl_leT, fl_leF, fl_eqT, fl_eqF, decide_true, decide_false, Bool.true_and, Bool.and_true, Bool.false_and, Bool.and_false, if_true, if_false, Bool.false_eq_true, Option.isSome_some, Option.getD_some, not_true_eq_false, not_false_eq_true, Option.toList_some, Option.toList_none, List.cons_append, List.nil_append, fl_si_wi, fl_wi_wi, e, fbC_86_19])
  have e0 : h = fl_wi h 262 (fl_seg 504 0 (fun _ => Int32.ofNat 0) (fl_i h 262)) := (fl_wi_self fl_seg_0).symm
  have lp' := (congrArg (fun x => fl_Rn fl_C 86 2 [some (.ref 259), some (.int (Int32.ofNat 0))] [] x) e0).trans lp
  have d1 : fl_df fl_Srf h (fl_wi h 262 (fl_seg 504 126 (fun _ => Int32.ofNat 0) (fl_i h 262))) := fl_df_wi fl_df_rfl (fun j z => fl_seg_out (by omega))
  have m1 : fl_mr (fl_wi h 262 (fl_seg 504 126 (fun _ => Int32.ofNat 0) (fl_i h 262))) (fun _ => 0) := fun j hj => by rw [fl_i_wi, if_pos rfl, fl_seg_in hj]
  have i5 : fl_i (fl_wi h 262 (fl_seg 504 126 (fun _ => Int32.ofNat 0) (fl_i h 262))) 259 5 = fl_i h 259 5 := by rw [fl_i_wi, if_neg (by decide)]
  generalize fl_wi h 262 (fl_seg 504 126 (fun _ => Int32.ofNat 0) (fl_i h 262)) = h1 at *
  have g1 := fl_df_g hg d1
  have d2 : fl_df (fun q j => q = 259 ∧ j = 12) h1 (fl_wi h1 259 (fl_up (fl_i h1 259) 12 (Int32.ofNat 0))) := fl_df_wiu fl_df_rfl ⟨rfl, rfl⟩
  refine ⟨fl_wi h1 259 (fl_up (fl_i h1 259) 12 (Int32.ofNat 0)), ?_, fl_df_tr d1 (fl_df_mo d2 (fun q j z => by omega)), fl_mr_df m1 d2 (fun j => by omega), by rw [fl_i_wi, if_pos rfl, fl_up_self], by rw [(d2.2.2.2 259 5 (by omega)).1]; exact i5⟩
  rw [fbE_86]
  refine lp'.trans ?_
  clear lp lp' d1 m1 d2
  rw [fbC_86_2]
  simp (disch := omega) only [fl_si_wi, g1.1, fl_KM, fl_RM, fl_lit, fl_nadd, fl_nmul, fl_ndiv, fl_nsub, fl_msub, fl_nle, fl_nlt, fl_neq, fl_nclamp, fl_nin, fl_ltT, fl_ltF, fl_leT, fl_leF, fl_eqT, fl_eqF, decide_true, decide_false, Bool.true_and, Bool.and_true, Bool.false_and, Bool.and_false, if_true, if_false, Bool.false_eq_true, Option.isSome_some, Option.getD_some, not_true_eq_false, not_false_eq_true, Option.toList_some, Option.toList_none, List.cons_append, List.nil_append]
theorem fr_86i (hg : fl_g k0 h) (m : fl_mr h (fun _ => 0)) {n : Nat} (n1 : 1 ≤ n) (n4 : n ≤ 4) : ∃ y, fl_ca fl_C 86 36 [some (.ref 259)] [] [] (some (some (some (.int (Int32.ofNat (n - 1)))), h)) = fl_Rn fl_C 86 94 [some (.ref 259)] [] y ∧ fl_df (fun q j => q = 262 ∧ 504 ≤ j) h y ∧ fl_mr y (fl_gin n) := by
  have u1 := fl_mr_w m (j := 0) n
  generalize q1 : fl_wi h 262 (fl_up (fl_i h 262) (504 + 0) (Int32.ofNat n)) = h1 at *
  have g1 := fl_df_g hg u1.1
  have u2 := fl_mr_w u1.2 (j := 1) n
  generalize q2 : fl_wi h1 262 (fl_up (fl_i h1 262) (504 + 1) (Int32.ofNat n)) = h2 at *
  have g2 := fl_df_g g1 u2.1
  have lp := fl_iter (fun k => fl_Rn fl_C 86 72 [some (.ref 259), some (.int (Int32.ofNat n)), some (.int (Int32.ofNat k))] [] (fl_wi h2 262 (fl_seg 544 k (fun _ => Int32.ofNat 2) (fl_i h2 262)))) n (by
    intro k hk
    try dsimp only
    have e := fl_seg_succ (a := 544) (k := k) (f := fun _ => Int32.ofNat 2) (old := fl_i h2 262) (x := Int32.ofNat 2) rfl
    clear u1 u2 m
    rw [fbC_86_72]
    simp (disch := omega) only [fl_k_wl, fl_r_wl, fl_i_wl, fl_l_wl, fl_1_wl, fl_k_wi, fl_r_wi, fl_l_wi, fl_1_wi, fl_i_wi, fl_k_si, fl_r_si, fl_l_si, fl_k_sl, fl_r_sl, fl_i_sl, fl_up_self, fl_up_ne, fl_si_wi, fl_sl_wl, fl_wi_wi, fl_wl_wl, g2.1, g2.2, fl_KM, fl_RM, fl_lit, fl_nadd, fl_nmul, fl_ndiv, fl_nsub, fl_msub, fl_nle, fl_nlt, fl_neq, fl_nclamp, fl_nin, fl_ltT, fl_ltF, fl_leT, fl_leF, fl_eqT, fl_eqF, decide_true, decide_false, Bool.true_and, Bool.and_true, Bool.false_and, Bool.and_false, if_true, if_false, Bool.false_eq_true, Option.isSome_some, Option.getD_some, not_true_eq_false, not_false_eq_true, Option.toList_some, Option.toList_none, List.cons_append, List.nil_append, fl_si_wi, fl_wi_wi, e, fbC_86_88])
  have e0 : h2 = fl_wi h2 262 (fl_seg 544 0 (fun _ => Int32.ofNat 2) (fl_i h2 262)) := (fl_wi_self fl_seg_0).symm
  have lp' := (congrArg (fun x => fl_Rn fl_C 86 72 [some (.ref 259), some (.int (Int32.ofNat n)), some (.int (Int32.ofNat 0))] [] x) e0).trans lp
  have d3 : fl_df (fun q j => q = 262 ∧ 504 ≤ j) h2 (fl_wi h2 262 (fl_seg 544 n (fun _ => Int32.ofNat 2) (fl_i h2 262))) := fl_df_wi fl_df_rfl (fun j z => fl_seg_out (by omega))
  refine ⟨fl_wi h2 262 (fl_seg 544 n (fun _ => Int32.ofNat 2) (fl_i h2 262)), ?_, fl_df_tr u1.1 (fl_df_tr u2.1 d3), fun j hj => ?_⟩
  · have g3 := fl_df_g g2 d3
    have ns : Int32.ofNat (n - 1) + Int32.ofNat 1 = Int32.ofNat n := by rw [fl_nadd, show n - 1 + 1 = n by omega]
    rw [show 504 + 0 = 504 from rfl] at q1
    rw [show 504 + 1 = 505 from rfl] at q2
    have en : fl_Rn fl_C 86 72 [some (.ref 259), some (.int (Int32.ofNat n)), some (.int (Int32.ofNat n))] [] (fl_wi h2 262 (fl_seg 544 n (fun _ => Int32.ofNat 2) (fl_i h2 262))) = fl_Rn fl_C 86 94 [some (.ref 259)] [] (fl_wi h2 262 (fl_seg 544 n (fun _ => Int32.ofNat 2) (fl_i h2 262))) := by
      clear u1 u2 m lp lp' d3
      rw [fbC_86_72]
      simp (disch := omega) only [fl_lit, fl_nadd, fl_nmul, fl_ndiv, fl_nsub, fl_msub, fl_nle, fl_nlt, fl_neq, fl_nclamp, fl_nin, fl_ltT, fl_ltF, fl_leT, fl_leF, fl_eqT, fl_eqF, decide_true, decide_false, Bool.true_and, Bool.and_true, Bool.false_and, Bool.and_false, if_true, if_false, Bool.false_eq_true, Option.isSome_some, Option.getD_some, not_true_eq_false, not_false_eq_true, Option.toList_some, Option.toList_none, List.cons_append, List.nil_append]
    rw [← en, ← lp']
    clear u1 u2 m lp lp' d3 en e0
    rw [fbP_86_36]
    simp (disch := omega) only [fl_lit, ns, fl_si_wi, hg.1, hg.2, g1.1, g1.2, fl_KM, fl_RM, fl_lit, fl_nadd, fl_nmul, fl_ndiv, fl_nsub, fl_msub, fl_nle, fl_nlt, fl_neq, fl_nclamp, fl_nin, fl_ltT, fl_ltF, fl_leT, fl_leF, fl_eqT, fl_eqF, decide_true, decide_false, Bool.true_and, Bool.and_true, Bool.false_and, Bool.and_false, if_true, if_false, Bool.false_eq_true, Option.isSome_some, Option.getD_some, not_true_eq_false, not_false_eq_true, Option.toList_some, Option.toList_none, List.cons_append, List.nil_append, q1, fbC_86_61, q2, fbC_86_70]
  · rw [fl_i_wi, if_pos rfl]
    by_cases c : 40 ≤ j ∧ j < 40 + n
    · rw [show 504 + j = 544 + (j - 40) by omega, fl_seg_in (by omega)]
      unfold fl_gin
      rw [if_neg (by omega), if_pos c]
    · rw [fl_seg_out (by omega), u2.2 j hj]
      unfold fl_gin
      by_cases c1 : j = 1
      · subst c1; rw [fl_up_self, if_pos (Or.inr rfl)]
      · rw [fl_up_ne c1]
        by_cases c0 : j = 0
        · subst c0; rw [fl_up_self, if_pos (Or.inl rfl)]
        · rw [fl_up_ne c0, if_neg (by omega), if_neg c]
theorem fr_86 (sk : fl_sk k0 i0) (hs : fl_st k0 i0 h) (hg : fl_g k0 h) (x : fl_xT h tn tx) (e5 : fl_i h 259 5 = Int32.ofNat 0) : ∃ v y, fl_cl fl_C 86 [.ref 259] h = some (some (some (.int v)), y) ∧ fl_df fl_Srf h y ∧ match fl_read tx tn with
    | .inr e => v = -Int32.ofNat 1 - Int32.ofNat e.1 ∧ e.1 ≤ tn ∧ fl_kz y e.2
    | .inl P => if fl_any (fl_far P.2) (P.2 0) = true then v = -Int32.ofNat 200 ∧ fl_kz y (fl_toofar P.2) else v = Int32.ofNat 0 ∧ fl_mr y P.2 := by
  have t80 := x.1
  obtain ⟨y0, e0, d0, m0, c0, i0'⟩ := fr_86z hg
  have g0 := fl_df_g hg d0
  have x0 := fl_xT_df x d0 (by omega) (fun j => by omega)
  have a0 : fl_i y0 259 5 = Int32.ofNat 0 := i0'.trans e5
  have s0 := fl_df_st d0 hs (fun q j z => by omega)
  have t := fr_80 sk s0 g0 x0 a0 (by omega) (i := 1) (by omega)
  rw [show 1048576 + 1 = 1048577 from rfl] at t
  rw [e0]
  unfold fl_read fl_rinp
  by_cases q : 0 < tn ∧ 49 ≤ tx 0 ∧ tx 0 ≤ 52
  · rw [if_pos q]
    obtain ⟨y1, e1, d1, a1⟩ := t.1 (tx 0 - 49) (by omega) q.1 (by rw [fl_ix1 _ (x0.2.2 0 q.1).1, if_pos q.2])
    have g1 := fl_df_g g0 d1
    obtain ⟨y2, e2, d2, m2⟩ := fr_86i (n := tx 0 - 48) g1 (fl_mr_df m0 d1 (fun j => by omega)) (by omega) (by omega)
    rw [show tx 0 - 48 - 1 = tx 0 - 49 by omega] at e2
    have st : fl_Rn fl_C 86 30 [some (.ref 259)] [] y0 = fl_Rn fl_C 86 94 [some (.ref 259)] [] y2 := by
      rw [← e2]
      clear x x0 m0 t d0 d1 d2 m2 hs s0 e2
      rw [fbC_86_30]
      simp (disch := omega) only [g0.1, fl_KM, fl_RM, fl_lit, fl_nadd, fl_nmul, fl_ndiv, fl_nsub, fl_msub, fl_nle, fl_nlt, fl_neq, fl_nclamp, fl_nin, fl_ltT, fl_ltF, fl_leT, fl_leF, fl_eqT, fl_eqF, decide_true, decide_false, Bool.true_and, Bool.and_true, Bool.false_and, Bool.and_false, if_true, if_false, Bool.false_eq_true, Option.isSome_some, Option.getD_some, not_true_eq_false, not_false_eq_true, Option.toList_some, Option.toList_none, List.cons_append, List.nil_append, e1]
    rw [st]
    clear st
    have d02 : fl_df fl_Srf h y2 := fl_df_tr d0 (fl_df_tr (fl_df_mo d1 (fun q j z => by omega)) (fl_df_mo d2 (fun q j z => by omega)))
    have rg0 : fl_rgs (fl_gin (tx 0 - 48)) = 0 := by
      unfold fl_rgs
      have v := (fl_gin_v (n := tx 0 - 48)).1
      exact fl_cnt_ff (fun i hi => by rw [v] at hi; rw [fl_gin_z (by omega) (by omega) (by omega)]; rfl)
    have L2 : fl_Ll k0 i0 tx tn (1, fl_gin (tx 0 - 48)) y2 := ⟨fl_df_st d02 hs (fun q j z => by omega), fl_df_g hg d02, fl_xT_df x d02 (by omega) (fun j => by omega), by rw [(d2.2.2.2 259 5 (by omega)).1]; exact a1, m2, by rw [(d2.2.2.2 259 12 (by omega)).1, (d1.2.2.2 259 12 (by omega)).1, c0, rg0], fl_RI_gin (by omega), q.1⟩
    have eb : fl_bnd (.inl (1, fl_gin (tx 0 - 48))) (fl_rlines tx tn 80) = fl_rlines tx tn 80 (1, fl_gin (tx 0 - 48)) := rfl
    rw [eb]
    rcases fr_86l sk 80 _ y2 L2 (by dsimp only; omega) with ⟨e, y3, r3, e3, d3, z3, et⟩ | ⟨P3, y3, r3, e3, d3, L3⟩
    · rw [r3]
      exact ⟨_, y3, e3, fl_df_tr d02 d3, rfl, et, z3⟩
    · rw [r3, e3]
      obtain ⟨s3, g3, x3, a3, m3, c3, I3, p3⟩ := L3
      have d03 := fl_df_tr d02 d3
      have t3 := fr_80 sk s3 g3 x3 a3 (by omega) (i := 5) (by omega)
      rw [show 1048576 + 5 = 1048581 from rfl] at t3
      show ∃ v y, _ = some (some (some (Value.int v)), y) ∧ fl_df fl_Srf h y ∧ match fl_rcol tx tn P3 with | .inr e => _ | .inl P => _
      unfold fl_rcol
      have i33 := I3.1.1
      by_cases q3 : P3.1 < tn ∧ tx P3.1 = 58
      · rw [if_pos q3]
        obtain ⟨y4, e4, d4, a4⟩ := t3.1 0 (by omega) q3.1 (by rw [fl_ix5 _ (x3.2.2 _ q3.1).1, if_pos q3.2])
        have g4 := fl_df_g g3 d4
        have d04 := fl_df_tr d03 (fl_df_mo d4 (fun q j z => by omega))
        have no : ∀ c, fl_isO P3.2 c = false := fun c => by unfold fl_isO; rw [I3.2.2]; rfl
        obtain ⟨v5, y5, e5', d5, r5, b5⟩ := fr_85 (P := (P3.1 + 1, P3.2)) sk ⟨fl_df_st d04 hs (fun q j z => by omega), g4, fl_xT_df x d04 (by omega) (fun j => by omega), a4, fl_mr_df m3 d4 (fun j => by omega), fl_RO_RI I3, by dsimp only; omega, fun c hc => by rw [fl_hi_0 c (by omega)]; exact (no c).symm⟩ I3.2.2
        have g5 := fl_df_g g4 d5
        have d05 := fl_df_tr d04 d5
        rw [e4]
        have s5 : fl_ca fl_C 86 123 [some (.ref 259)] [] [] (some (some (some (.int (Int32.ofNat 0))), y4)) = fl_ca fl_C 86 146 [some (.ref 259)] [] [] (some (some (some (.int v5)), y5)) := by
          clear x x0 x3 m0 m2 m3 t t3 L2 d0 d1 d2 d3 d4 d5 d02 d03 d04 d05 hs s0 s3 r5 b5 I3 eb r3
          rw [fbP_86_123]
          simp (disch := omega) only [g4.1, fl_KM, fl_RM, fl_lit, fl_nadd, fl_nmul, fl_ndiv, fl_nsub, fl_msub, fl_nle, fl_nlt, fl_neq, fl_nclamp, fl_nin, fl_ltT, fl_ltF, fl_leT, fl_leF, fl_eqT, fl_eqF, decide_true, decide_false, Bool.true_and, Bool.and_true, Bool.false_and, Bool.and_false, if_true, if_false, Bool.false_eq_true, Option.isSome_some, Option.getD_some, not_true_eq_false, not_false_eq_true, Option.toList_some, Option.toList_none, List.cons_append, List.nil_append, e5']
        rw [s5]
        cases w : fl_bnd (fl_rout tx tn (P3.1 + 1, P3.2)) (fl_routs tx tn 80) with
        | inr e =>
          rw [w] at r5
          have et := b5 e w
          have v1 : v5 = -Int32.ofNat 1 - Int32.ofNat e.1 := r5.1
          have ne : (Int32.ofNat 0 ≤ v5) = False := eq_false (by rw [v1]; exact fl_neg_le _ (by omega))
          refine ⟨v5, y5, ?_, d05, v1, et, r5.2⟩
          clear x x0 x3 m0 m2 m3 t t3 L2 d0 d1 d2 d3 d4 d5 d02 d03 d04 d05 hs s0 s3 r5 b5 I3 eb r3 v1
          rw [fbP_86_146]
          simp (disch := omega) only [g5.1, fl_KM, fl_RM, fl_lit, fl_nadd, fl_nmul, fl_ndiv, fl_nsub, fl_msub, fl_nle, fl_nlt, fl_neq, fl_nclamp, fl_nin, fl_ltT, fl_ltF, fl_leT, fl_leF, fl_eqT, fl_eqF, decide_true, decide_false, Bool.true_and, Bool.and_true, Bool.false_and, Bool.and_false, if_true, if_false, Bool.false_eq_true, Option.isSome_some, Option.getD_some, not_true_eq_false, not_false_eq_true, Option.toList_some, Option.toList_none, List.cons_append, List.nil_append, ne]
        | inl P5 =>
          rw [w] at r5
          have v1 : v5 = Int32.ofNat 0 := r5.1
          have RO5 : fl_RO P5.2 := by
            have : fl_rcol tx tn P3 = .inl P5 := by unfold fl_rcol; rw [if_pos q3]; exact w
            exact (fl_rcol_ok this I3).1
          obtain ⟨y6, d6, r6⟩ := fr_86q g5 r5.2.2 RO5
          have s6 : fl_ca fl_C 86 146 [some (.ref 259)] [] [] (some (some (some (.int v5)), y5)) = fl_Rn fl_C 86 155 [some (.ref 259), none, none, some (.int (Int32.ofNat 0))] [] y5 := by
            rw [v1]
            clear x x0 x3 m0 m2 m3 t t3 L2 d0 d1 d2 d3 d4 d5 d02 d03 d04 d05 hs s0 s3 r5 b5 I3 eb r3 v1 r6 d6 s5
            rw [fbP_86_146]
            simp (disch := omega) only [g5.1, fl_KM, fl_RM, fl_lit, fl_nadd, fl_nmul, fl_ndiv, fl_nsub, fl_msub, fl_nle, fl_nlt, fl_neq, fl_nclamp, fl_nin, fl_ltT, fl_ltF, fl_leT, fl_leF, fl_eqT, fl_eqF, decide_true, decide_false, Bool.true_and, Bool.and_true, Bool.false_and, Bool.and_false, if_true, if_false, Bool.false_eq_true, Option.isSome_some, Option.getD_some, not_true_eq_false, not_false_eq_true, Option.toList_some, Option.toList_none, List.cons_append, List.nil_append]
          rw [s6]
          dsimp only
          by_cases f : fl_any (fl_far P5.2) (P5.2 0) = true
          · rw [if_pos f] at r6
            exact ⟨_, y6, r6.1, fl_df_tr d05 d6, (if_pos f).mpr ⟨rfl, r6.2⟩⟩
          · rw [if_neg f] at r6
            exact ⟨_, y5, r6.1, d05, (if_neg f).mpr ⟨rfl, r5.2.2⟩⟩
      · rw [if_neg q3]
        obtain ⟨y4, e4, d4, a4⟩ := t3.2 (fun z => by rw [fl_ix5 _ (x3.2.2 _ z).1, if_neg (fun z2 => q3 ⟨z, z2⟩)])
        have g4 := fl_df_g g3 d4
        have m4 := fl_mr_df m3 d4 (fun j => by omega)
        have l4 : fl_i y4 262 504 = Int32.ofNat (P3.2 0) := m4 0 (by omega)
        obtain ⟨y5, e5', d5, z5⟩ := fr_82 (n := 0) g4 a4 (P3.2 0) false (by omega) (k := 3) (by omega)
        rw [if_neg (by decide)] at e5'
        rw [e4]
        have nm : (Int32.ofNat 0 ≤ -Int32.ofNat 1) = False := eq_false (by decide)
        refine ⟨_, y5, ?_, fl_df_tr d03 (fl_df_tr (fl_df_mo d4 (fun q j z => by omega)) (fl_df_mo d5 (fun q j z => by omega))), rfl, p3, z5⟩
        clear x x0 x3 m0 m2 m3 m4 t t3 L2 d0 d1 d2 d3 d4 d5 d02 d03 hs s0 s3 I3 eb r3 z5
        rw [fbP_86_123]
        simp (disch := omega) only [g4.1, g4.2, fl_KM, fl_RM, fl_lit, fl_nadd, fl_nmul, fl_ndiv, fl_nsub, fl_msub, fl_nle, fl_nlt, fl_neq, fl_nclamp, fl_nin, fl_ltT, fl_ltF, fl_leT, fl_leF, fl_eqT, fl_eqF, decide_true, decide_false, Bool.true_and, Bool.and_true, Bool.false_and, Bool.and_false, if_true, if_false, Bool.false_eq_true, Option.isSome_some, Option.getD_some, not_true_eq_false, not_false_eq_true, Option.toList_some, Option.toList_none, List.cons_append, List.nil_append, nm, l4, e5', fbP_86_141]
  · rw [if_neg q]
    obtain ⟨y1, e1, d1, a1⟩ := t.2 (fun z => by rw [fl_ix1 _ (x0.2.2 0 z).1, if_neg (fun z2 => q ⟨z, z2⟩)])
    have g1 := fl_df_g g0 d1
    obtain ⟨y2, e2, d2, z2⟩ := fr_82 (n := 0) g1 a1 0 false (by omega) (k := 3) (by omega)
    rw [if_neg (by decide)] at e2
    refine ⟨_, y2, ?_, fl_df_tr d0 (fl_df_tr (fl_df_mo d1 (fun q j z => by omega)) (fl_df_mo d2 (fun q j z => by omega))), rfl, Nat.zero_le _, z2⟩
    have ns : -Int32.ofNat 1 + Int32.ofNat 1 = Int32.ofNat 0 := by decide
    clear x x0 m0 t d0 d1 d2 hs s0 z2
    rw [fbC_86_30]
    simp (disch := omega) only [g0.1, g1.1, fl_KM, fl_RM, fl_lit, e1, fbP_86_36, ns, fl_lit, fl_nadd, fl_nmul, fl_ndiv, fl_nsub, fl_msub, fl_nle, fl_nlt, fl_neq, fl_nclamp, fl_nin, fl_ltT, fl_ltF, fl_leT, fl_leF, fl_eqT, fl_eqF, decide_true, decide_false, Bool.true_and, Bool.and_true, Bool.false_and, Bool.and_false, if_true, if_false, Bool.false_eq_true, Option.isSome_some, Option.getD_some, not_true_eq_false, not_false_eq_true, Option.toList_some, Option.toList_none, List.cons_append, List.nil_append, e2, fbP_86_51]
end
