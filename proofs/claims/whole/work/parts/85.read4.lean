/-! THE READER of the class: a line added -/
section
variable {k0 : Nat → Nat × Nat} {i0 : Nat → Nat → Int32} {h : fl_H} {g tx : Nat → Nat} {tn a s W w : Nat} {P : fl_Ps} {l : List (Nat × Nat)}
abbrev fl_S21 (q j : Nat) : Prop := (q = 8 ∧ (j = 1 ∨ j = 3)) ∨ q = 10 ∨ q = 12 ∨ q = 14 ∨ q = 16
theorem fc_21 (hg : fl_g k0 h) {L N R : Nat} (i1 : fl_i h 8 1 = Int32.ofNat L) (hL : L < 12) (i2 : fl_i h 8 2 = Int32.ofNat N) (i3 : fl_i h 8 3 = Int32.ofNat R) (s8 : s ≤ 8) (F V : Int32) (X : Int64) (hX : (F = -Int32.ofNat 1 ∧ X = 0) ∨ ∃ W, F = Int32.ofNat W ∧ W ≤ N ∧ N ≤ 20 ∧ X = Int64.ofNat (N - W)) : ∃ y, fl_cl fl_C 21 [.ref 8, .int (Int32.ofNat s), .int F, .int V] h = some (some none, y) ∧ fl_df fl_S21 h y ∧ fl_i y 8 1 = Int32.ofNat (L + 1) ∧ fl_i y 8 3 = Int32.ofNat (R + (decide (s = 8)).toNat) ∧ fl_l y 10 = fl_up (fl_l h 10) L (Int64.ofNat s) ∧ fl_l y 14 = fl_up (fl_l h 14) L (Int32.toInt64 F) ∧ fl_l y 12 = fl_up (fl_l h 12) L X ∧ fl_l y 16 = fl_up (fl_l h 16) L (Int32.toInt64 V) := by
  have o := fl_o8o (k0 := k0)
  have K := fl_o8c (k0 := k0)
  obtain ⟨h1, p1, d1, l1⟩ := fc_putX K.1 hg hL (Int32.toInt64 (Int32.ofNat s))
  have g1 := fl_df_g hg d1
  obtain ⟨h2, p2, d2, l2⟩ := fc_putX K.2.2.1 g1 hL (Int32.toInt64 F)
  have g2 := fl_df_g g1 d2
  obtain ⟨h3, p3, d3, l3⟩ := fc_putX K.2.1 g2 hL X
  have g3 := fl_df_g g2 d3
  obtain ⟨h4, p4, d4, l4⟩ := fc_putX K.2.2.2.1 g3 hL (Int32.toInt64 V)
  have g4 := fl_df_g g3 d4
  have q1 : ∀ j, fl_i h1 8 j = fl_i h 8 j := fun j => (d1.2.2.2 8 j (by omega)).1
  have q2 : ∀ j, fl_i h2 8 j = fl_i h 8 j := fun j => by rw [(d2.2.2.2 8 j (by omega)).1, q1]
  have q3 : ∀ j, fl_i h3 8 j = fl_i h 8 j := fun j => by rw [(d3.2.2.2 8 j (by omega)).1, q2]
  have q4 : ∀ j, fl_i h4 8 j = fl_i h 8 j := fun j => by rw [(d4.2.2.2 8 j (by omega)).1, q3]
  have a1 : fl_i h1 8 1 = Int32.ofNat L := (q1 1).trans i1
  have a2 : fl_i h2 8 1 = Int32.ofNat L := (q2 1).trans i1
  have b2 : fl_i h2 8 2 = Int32.ofNat N := (q2 2).trans i2
  have a3 : fl_i h3 8 1 = Int32.ofNat L := (q3 1).trans i1
  have a4 : fl_i h4 8 1 = Int32.ofNat L := (q4 1).trans i1
  have d5 : fl_df (fun q j => q = 8 ∧ j = 1) h4 (fl_wi h4 8 (fl_up (fl_i h4 8) 1 (Int32.ofNat (L + 1)))) := fl_df_wiu fl_df_rfl ⟨rfl, rfl⟩
  have m5 : fl_i (fl_wi h4 8 (fl_up (fl_i h4 8) 1 (Int32.ofNat (L + 1)))) 8 1 = Int32.ofNat (L + 1) := by rw [fl_i_wi, if_pos rfl, fl_up_self]
  generalize h5e : fl_wi h4 8 (fl_up (fl_i h4 8) 1 (Int32.ofNat (L + 1))) = h5 at *
  have g5 := fl_df_g g4 d5
  have c5 : fl_i h5 8 3 = Int32.ofNat R := by rw [(d5.2.2.2 8 3 (by omega)).1, q4]; exact i3
  have d6 : fl_df (fun q j => q = 8 ∧ j = 3) h5 (fl_wi h5 8 (fl_up (fl_i h5 8) 3 (Int32.ofNat (R + (decide (s = 8)).toNat)))) := fl_df_wiu fl_df_rfl ⟨rfl, rfl⟩
  have m6 : fl_i (fl_wi h5 8 (fl_up (fl_i h5 8) 3 (Int32.ofNat (R + (decide (s = 8)).toNat)))) 8 3 = Int32.ofNat (R + (decide (s = 8)).toNat) := by rw [fl_i_wi, if_pos rfl, fl_up_self]
  generalize h6e : fl_wi h5 8 (fl_up (fl_i h5 8) 3 (Int32.ofNat (R + (decide (s = 8)).toNat))) = h6 at *
  have dT : fl_df fl_S21 h h6 := fl_df_tr (fl_df_mo d1 (fun q j z => by omega)) (fl_df_tr (fl_df_mo d2 (fun q j z => by omega)) (fl_df_tr (fl_df_mo d3 (fun q j z => by omega)) (fl_df_tr (fl_df_mo d4 (fun q j z => by omega)) (fl_df_tr (fl_df_mo d5 (fun q j z => by omega)) (fl_df_mo d6 (fun q j z => by omega))))))
  refine ⟨h6, ?_, dT, by rw [(d6.2.2.2 8 1 (by omega)).1]; exact m5, m6, ?_, ?_, ?_, ?_⟩
  · have c1 := K.1.1
    have c2 := K.2.1.1
    have c3 := K.2.2.1.1
    have c4 := K.2.2.2.1.1
    have e21 : fl_Rn fl_C 21 76 [some (.ref 8), some (.int (Int32.ofNat s))] [] h5 = some (some none, h6) := by
      clear d1 d2 d3 d4 d5 d6 dT l1 l2 l3 l4 q1 q2 q3 q4 K hX m5 m6
      by_cases z : s = 8
      · rw [decide_eq_true z, Bool.toNat_true] at h6e
        rw [fbC_21_76]
        simp (disch := omega) only [fl_si_wi, g5.1, o, fl_lit, fl_nadd, fl_nmul, fl_ndiv, fl_nsub, fl_msub, fl_nle, fl_nlt, fl_neq, fl_nclamp, fl_nin, fl_ltT, fl_ltF, fl_leT, fl_leF, fl_eqT, fl_eqF, decide_true, decide_false, Bool.true_and, Bool.and_true, Bool.false_and, Bool.and_false, if_true, if_false, Bool.false_eq_true, Option.isSome_some, Option.getD_some, not_true_eq_false, not_false_eq_true, Option.toList_some, Option.toList_none, List.cons_append, List.nil_append, c5, h6e]
      · rw [decide_eq_false z, Bool.toNat_false] at h6e
        rw [fbC_21_76]
        simp (disch := omega) only [fl_si_wi, g5.1, o, fl_lit, fl_nadd, fl_nmul, fl_ndiv, fl_nsub, fl_msub, fl_nle, fl_nlt, fl_neq, fl_nclamp, fl_nin, fl_ltT, fl_ltF, fl_leT, fl_leF, fl_eqT, fl_eqF, decide_true, decide_false, Bool.true_and, Bool.and_true, Bool.false_and, Bool.and_false, if_true, if_false, Bool.false_eq_true, Option.isSome_some, Option.getD_some, not_true_eq_false, not_false_eq_true, Option.toList_some, Option.toList_none, List.cons_append, List.nil_append, c5, h6e]
    clear d1 d2 d3 d4 d5 d6 dT l1 l2 l3 l4 q1 q2 q3 q4 K m5 m6 h6e
    rcases hX with ⟨f, x⟩ | ⟨W, f, w1, w2, x⟩
    · subst f; subst x
      have nn : (-Int32.ofNat 1 = -Int32.ofNat 1) = True := eq_self _
      rw [fbE_21]
      simp (disch := omega) only [fl_si_wi, hg.1, hg.2, g1.1, g1.2, g2.1, g2.2, g3.1, g3.2, g4.1, o, c1, c2, c3, c4, fl_lit, fl_nadd, fl_nmul, fl_ndiv, fl_nsub, fl_msub, fl_nle, fl_nlt, fl_neq, fl_nclamp, fl_nin, fl_ltT, fl_ltF, fl_leT, fl_leF, fl_eqT, fl_eqF, decide_true, decide_false, Bool.true_and, Bool.and_true, Bool.false_and, Bool.and_false, if_true, if_false, Bool.false_eq_true, Option.isSome_some, Option.getD_some, not_true_eq_false, not_false_eq_true, Option.toList_some, Option.toList_none, List.cons_append, List.nil_append, i1, p1, fbP_21_13, a1, p2, fbP_21_26, nn, a2, p3, fbP_21_53, a3, p4, fbP_21_66, a4, h5e, e21]
    · subst f; subst x
      have nn : (Int32.ofNat W = -Int32.ofNat 1) = False := fl_neg1 (by omega)
      have xx : Int32.toInt64 (Int32.ofNat (N - W)) = Int64.ofNat (N - W) := fl_i64 (by omega)
      rw [fbE_21]
      simp (disch := omega) only [fl_si_wi, hg.1, hg.2, g1.1, g1.2, g2.1, g2.2, g3.1, g3.2, g4.1, o, c1, c2, c3, c4, fl_lit, fl_nadd, fl_nmul, fl_ndiv, fl_nsub, fl_msub, fl_nle, fl_nlt, fl_neq, fl_nclamp, fl_nin, fl_ltT, fl_ltF, fl_leT, fl_leF, fl_eqT, fl_eqF, decide_true, decide_false, Bool.true_and, Bool.and_true, Bool.false_and, Bool.and_false, if_true, if_false, Bool.false_eq_true, Option.isSome_some, Option.getD_some, not_true_eq_false, not_false_eq_true, Option.toList_some, Option.toList_none, List.cons_append, List.nil_append, i1, p1, fbP_21_13, a1, p2, fbP_21_26, nn, a2, b2, xx, p3, fbP_21_53, a3, p4, fbP_21_66, a4, h5e, e21]
  · rw [fl_df_l d6 (fun j => by omega), fl_df_l d5 (fun j => by omega), fl_df_l d4 (fun j => by omega), fl_df_l d3 (fun j => by omega), fl_df_l d2 (fun j => by omega), l1, fl_i64 (by omega)]
  · rw [fl_df_l d6 (fun j => by omega), fl_df_l d5 (fun j => by omega), fl_df_l d4 (fun j => by omega), fl_df_l d3 (fun j => by omega), l2, fl_df_l d1 (fun j => by omega)]
  · rw [fl_df_l d6 (fun j => by omega), fl_df_l d5 (fun j => by omega), fl_df_l d4 (fun j => by omega), l3, fl_df_l d2 (fun j => by omega), fl_df_l d1 (fun j => by omega)]
  · rw [fl_df_l d6 (fun j => by omega), fl_df_l d5 (fun j => by omega), l4, fl_df_l d3 (fun j => by omega), fl_df_l d2 (fun j => by omega), fl_df_l d1 (fun j => by omega)]
/-- a line closed -/
theorem fc_21g (hg : fl_g k0 h) (d : fl_net h 8 g) (R : fl_RQ s W w g) (w1 : 1 ≤ w) {v : Nat} (hv : v ≤ 2) : ∃ y, fl_cl fl_C 21 [.ref 8, .int (Int32.ofNat s), .int (Int32.ofNat W), .int (if s = 8 then Int32.ofNat v else -Int32.ofNat 1)] h = some (some none, y) ∧ fl_df fl_S21 h y ∧ fl_net y 8 (fl_gc g v) := by
  obtain ⟨a, b, c3, c0, c2, c4, cp, cs, cr⟩ := R
  obtain ⟨y, ey, dy, j1, j3, l10, l14, l12, l16⟩ := fc_21 hg d.1.2.1 c0 d.1.2.2.1 d.1.2.2.2.1 cs.2 (Int32.ofNat W) (if s = 8 then Int32.ofNat v else -Int32.ofNat 1) (Int64.ofNat w) (Or.inr ⟨W, rfl, by omega, by omega, by rw [c2.1, Nat.add_sub_cancel_left]⟩)
  refine ⟨y, ey, dy, ?_⟩
  have at' := fl_gc_at (g := g) (v := v)
  have f4 : fl_gc g v (4 + g 0) = s := by rw [fl_gc_ne (by omega)]; exact c4.1
  have f16 : fl_gc g v (16 + g 0) = W := by rw [fl_gc_ne (by omega)]; exact c4.2.1
  have f28 : fl_gc g v (28 + g 0) = w := by rw [fl_gc_ne (by omega)]; exact c4.2.2.1
  have e2 : fl_gc g v 2 = g 2 := fl_gc_ne (by omega)
  have e3 : fl_gc g v 3 = g 3 := fl_gc_ne (by omega)
  have iy : ∀ j, j ≠ 1 ∧ j ≠ 3 → fl_i y 8 j = fl_i h 8 j := fun j hj => (dy.2.2.2 8 j (by omega)).1
  refine ⟨⟨?_, ?_, ?_, ?_, ?_⟩, fun k hk => ?_, fun k hk => ?_, fun k hk => ?_, fun k hk => ?_, fun p hp => ?_, fun j hj => ?_⟩
  · rw [iy 0 (by omega), fl_gc_ne (by omega)]; exact d.1.1
  · rw [j1, at'.1]
  · rw [iy 2 (by omega), e2]; exact d.1.2.2.1
  · have ec : fl_cnt (fun k => decide (fl_gc g v (4 + k) = 8)) (g 0) = fl_cnt (fun k => decide (g (4 + k) = 8)) (g 0) := fl_cnt_congr (fun i hi => by rw [fl_gc_ne (by omega)])
    rw [j3, at'.1, fl_cnt, f4, ec]
  · rw [iy 4 (by omega), e3]; exact d.1.2.2.2.2
  · rw [at'.1] at hk
    show fl_l y 10 k = _
    rw [l10]
    by_cases q : k = g 0
    · subst q; rw [fl_up_self, f4]
    · rw [fl_up_ne q, fl_gc_ne (by omega)]; exact d.2.1 k (by omega)
  · rw [at'.1] at hk
    show fl_l y 12 k = _
    rw [l12]
    by_cases q : k = g 0
    · subst q; rw [fl_up_self, f28]
    · rw [fl_up_ne q, fl_gc_ne (by omega)]; exact d.2.2.1 k (by omega)
  · rw [at'.1] at hk
    show fl_l y 14 k = _
    rw [l14]
    by_cases q : k = g 0
    · subst q; rw [fl_up_self, f28, if_neg (by omega), f16, fl_i64 (by omega)]
    · rw [fl_up_ne q, fl_gc_ne (by omega), fl_gc_ne (by omega)]; exact d.2.2.2.1 k (by omega)
  · rw [at'.1] at hk
    show fl_l y 16 k = _
    rw [l16]
    by_cases q : k = g 0
    · subst q
      rw [fl_up_self, f4, at'.2]
      by_cases z : s = 8
      · rw [if_pos z, if_pos z, fl_i64 (by omega)]
      · rw [if_neg z, if_neg z]; decide
    · rw [fl_up_ne q, fl_gc_ne (by omega), fl_gc_ne (by omega)]; exact d.2.2.2.2.1 k (by omega)
  · rw [e2] at hp
    rw [fl_df_l dy (fun j => by omega), fl_gc_ne (by omega)]
    exact d.2.2.2.2.2.1 p hp
  · rw [e3, c3] at hj; omega
theorem fl_net_go (d : fl_net h 8 g) (h12 : g 0 < 12) (h3 : g 3 = 0) : fl_net h 8 (fl_go g s) := by
  have e0 : fl_go g s 0 = g 0 := fl_go_ne (by omega)
  have e2 : fl_go g s 2 = g 2 := fl_go_ne (by omega)
  have e3 : fl_go g s 3 = g 3 := fl_go_ne (by omega)
  refine ⟨⟨?_, ?_, ?_, ?_, ?_⟩, fun k hk => ?_, fun k hk => ?_, fun k hk => ?_, fun k hk => ?_, fun p hp => ?_, fun j hj => ?_⟩
  · rw [fl_go_ne (by omega)]; exact d.1.1
  · rw [e0]; exact d.1.2.1
  · rw [e2]; exact d.1.2.2.1
  · rw [e0, fl_cnt_congr (q' := fun k => decide (g (4 + k) = 8)) (fun i hi => by rw [fl_go_ne (by omega)])]; exact d.1.2.2.2.1
  · rw [e3]; exact d.1.2.2.2.2
  · rw [e0] at hk
    rw [fl_go_ne (by omega)]; exact d.2.1 k hk
  · rw [e0] at hk
    rw [fl_go_ne (by omega)]; exact d.2.2.1 k hk
  · rw [e0] at hk
    rw [fl_go_ne (by omega), fl_go_ne (by omega)]; exact d.2.2.2.1 k hk
  · rw [e0] at hk
    rw [fl_go_ne (by omega), fl_go_ne (by omega)]; exact d.2.2.2.2.1 k hk
  · rw [e2] at hp
    rw [fl_go_ne (by omega)]; exact d.2.2.2.2.2.1 p hp
  · rw [e3, h3] at hj; omega
theorem fl_rpin_ok {P' : fl_Ps} (e : fl_rpin tx tn s P = .inl P') (R : fl_RQ s W w P.2) : fl_RQ s W (w + 1) P'.2 ∧ P'.1 = P.1 + 1 ∧ P.1 < tn := by
  have ll := fl_ltr_le (tx := tx) (tn := tn) (a := P.1)
  have lt : fl_ltr tx tn P.1 ≠ 12 → P.1 < tn := fun z => by
    by_cases q : P.1 < tn
    · exact q
    · exact absurd (by unfold fl_ltr; exact if_neg (fun y => q y.1)) z
  have g20 := R.2.2.2.2.1.2
  unfold fl_rpin at e
  by_cases c1 : fl_ltr tx tn P.1 = 12
  · rw [if_pos c1] at e; cases e
  · rw [if_neg c1] at e
    by_cases c2 : s ≠ 8 ∧ P.2 0 ≤ fl_ltr tx tn P.1
    · rw [if_pos c2] at e; cases e
    · rw [if_neg c2] at e
      by_cases c3 : P.2 2 = 20
      · rw [if_pos c3] at e; cases e
      · rw [if_neg c3] at e
        cases e
        exact ⟨fl_RQ_gp R (by omega) (by omega) (fun z => by omega), rfl, lt c1⟩
end
