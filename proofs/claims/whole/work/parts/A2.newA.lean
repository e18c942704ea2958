/-! CONSTRUCTORS: the net 1:a of a new object -/
/-- its numbers -/
def fn_gg (j : Nat) : Nat := if j = 0 ∨ j = 1 ∨ j = 3 then 1 else if j = 40 then 2 else 0
theorem fn_gg_0 {j : Nat} (h : j ≠ 0 ∧ j ≠ 1 ∧ j ≠ 3 ∧ j ≠ 40) : fn_gg j = 0 := by
  unfold fn_gg
  rw [if_neg (by omega), if_neg h.2.2.2]
theorem fn_gg_wf : fl_wf fn_gg := by
  have e0 : fn_gg 0 = 1 := rfl
  have e1 : fn_gg 1 = 1 := rfl
  have e2 : fn_gg 2 = 0 := rfl
  have e3 : fn_gg 3 = 1 := rfl
  have e76 : fn_gg 76 = 0 := rfl
  have e77 : fn_gg 77 = 0 := rfl
  refine ⟨by omega, fun k hk => ?_, fun k h1 h2 => ?_, fun k i h1 h2 => ?_, fun p hp => ?_, fun j hj => ?_, fun i j h1 h2 => ?_, fun t ht => ?_, fun j hj => ?_, fun z => ?_, fun k h1 h2 => ?_, fun z => ?_, fun _ => e2, ?_⟩
  · have : k = 0 := by omega
    subst this
    exact ⟨rfl, rfl, rfl, rfl⟩
  · omega
  · omega
  · omega
  · have : j = 0 := by omega
    subst this
    exact Nat.zero_lt_one
  · omega
  · omega
  · unfold fn_gg
    repeat' split
    all_goals omega
  · omega
  · omega
  · omega
  · rw [e0]
    show fl_cnt (fun k => decide (fn_gg (4 + k) = 8)) 1 ≤ 3
    have := fl_cnt_le (q := fun k => decide (fn_gg (4 + k) = 8)) 1
    omega
/-- what kinds and references its cells have -/
abbrev fn_G (h : fl_H) : Prop := (fl_k h 0 = (1, 10) ∧ fl_r h 0 3 = some 27) ∧ (fl_k h 27 = (1, 7) ∧ fl_r h 27 0 = some 28 ∧ fl_r h 27 1 = some 41) ∧ (fl_k h 28 = (1, 4) ∧ fl_r h 28 5 = some 29 ∧ fl_r h 28 6 = some 31 ∧ fl_r h 28 7 = some 33 ∧ fl_r h 28 8 = some 35 ∧ fl_r h 28 10 = some 39) ∧ (fl_k h 29 = (1, 1) ∧ fl_r h 29 0 = some 30 ∧ fl_k h 30 = (3, 12)) ∧ (fl_k h 31 = (1, 1) ∧ fl_r h 31 0 = some 32 ∧ fl_k h 32 = (3, 12)) ∧ (fl_k h 33 = (1, 1) ∧ fl_r h 33 0 = some 34 ∧ fl_k h 34 = (3, 12)) ∧ (fl_k h 35 = (1, 1) ∧ fl_r h 35 0 = some 36 ∧ fl_k h 36 = (3, 12)) ∧ (fl_k h 39 = (1, 1) ∧ fl_r h 39 0 = some 40 ∧ fl_k h 40 = (3, 4)) ∧ (fl_k h 41 = (1, 0) ∧ fl_r h 41 0 = some 42 ∧ fl_r h 41 1 = some 51) ∧ fl_k h 42 = (1, 9) ∧ fl_k h 51 = (1, 9)
section
variable {k0 : Nat → Nat × Nat} {h h' H : fl_H} {S : Nat → Nat → Prop}
theorem fn_G_df (G : fn_G h) (d : fl_df S h h') : fn_G h' := by
  unfold fn_G
  rw [d.2.1, d.2.2.1]
  exact G
theorem fn_G_of {n sl : Nat} (c : fl_cn k0 h H 0 n sl) (hn : 100 ≤ n) : fn_G H := by
  have k : ∀ q, q < 100 → fl_k H q = fl_KK k0 q := fun q hq => by rw [c.2.1 q, if_pos (by omega)]
  have r : ∀ q j, q < 100 → fl_r H q j = fl_RR q j := fun q j hq => by rw [c.2.2.1 q j, if_pos (by omega)]
  refine ⟨⟨?_, ?_⟩, ⟨?_, ?_, ?_⟩, ⟨?_, ?_, ?_, ?_, ?_, ?_⟩, ⟨?_, ?_, ?_⟩, ⟨?_, ?_, ?_⟩, ⟨?_, ?_, ?_⟩, ⟨?_, ?_, ?_⟩, ⟨?_, ?_, ?_⟩, ⟨?_, ?_, ?_⟩, ?_, ?_⟩
  all_goals first | exact (k _ (by decide)).trans rfl | exact (r _ _ (by decide)).trans rfl
theorem fn_put {a q n i : Nat} (K : fl_k h a = (1, 1) ∧ fl_r h a 0 = some q ∧ fl_k h q = (3, n)) (hi : i < n) (hn : n < 100000) (v : Int64) : ∃ y, fl_cl fl_C 20 [.ref a, .int (Int32.ofNat i), .long v] h = some (some none, y) ∧ fl_df (fun p j => p = q ∧ j = i) h y ∧ fl_l y q = fl_up (fl_l h q) i v := by
  refine ⟨fl_wl h q (fl_up (fl_l h q) i v), ?_, fl_df_wlu fl_df_rfl ⟨rfl, rfl⟩, by rw [fl_l_wl, if_pos rfl]⟩
  rw [fbE_20]
  simp (disch := omega) only [K, fl_lit, fl_nadd, fl_nmul, fl_ndiv, fl_nsub, fl_msub, fl_nle, fl_nlt, fl_neq, fl_nclamp, fl_nin, fl_ltT, fl_ltF, fl_leT, fl_leF, fl_eqT, fl_eqF, decide_true, decide_false, Bool.true_and, Bool.and_true, Bool.false_and, Bool.and_false, if_true, if_false, Bool.false_eq_true, Option.isSome_some, Option.getD_some, not_true_eq_false, not_false_eq_true, Option.toList_some, Option.toList_none, List.cons_append, List.nil_append, fbC_20_20, fl_sl_wl]
abbrev fn_S21 (q j : Nat) : Prop := (q = 28 ∧ (j = 1 ∨ j = 3)) ∨ q = 30 ∨ q = 32 ∨ q = 34 ∨ q = 36
theorem fn_21 (G : fn_G h) (i1 : fl_i h 28 1 = Int32.ofNat 0) (i3 : fl_i h 28 3 = Int32.ofNat 0) : ∃ y, fl_cl fl_C 21 [.ref 28, .int (Int32.ofNat 0), .int (-Int32.ofNat 1), .int (-Int32.ofNat 1)] h = some (some none, y) ∧ fl_df fn_S21 h y ∧ fl_i y 28 1 = Int32.ofNat 1 ∧ fl_i y 28 3 = Int32.ofNat 0 ∧ fl_l y 30 0 = 0 ∧ fl_l y 34 0 = -1 ∧ fl_l y 32 0 = 0 ∧ fl_l y 36 0 = -1 := by
  obtain ⟨h1, p1, d1, l1⟩ := fn_put (i := 0) G.2.2.2.1 (by omega) (by omega) (Int32.toInt64 (Int32.ofNat 0))
  have g1 := fn_G_df G d1
  obtain ⟨h2, p2, d2, l2⟩ := fn_put (i := 0) g1.2.2.2.2.2.1 (by omega) (by omega) (Int32.toInt64 (-Int32.ofNat 1))
  have g2 := fn_G_df g1 d2
  obtain ⟨h3, p3, d3, l3⟩ := fn_put (i := 0) g2.2.2.2.2.1 (by omega) (by omega) 0
  have g3 := fn_G_df g2 d3
  obtain ⟨h4, p4, d4, l4⟩ := fn_put (i := 0) g3.2.2.2.2.2.2.1 (by omega) (by omega) (Int32.toInt64 (-Int32.ofNat 1))
  have g4 := fn_G_df g3 d4
  have q1 : ∀ j, fl_i h1 28 j = fl_i h 28 j := fun j => (d1.2.2.2 28 j (by omega)).1
  have q2 : ∀ j, fl_i h2 28 j = fl_i h 28 j := fun j => by rw [(d2.2.2.2 28 j (by omega)).1, q1]
  have q3 : ∀ j, fl_i h3 28 j = fl_i h 28 j := fun j => by rw [(d3.2.2.2 28 j (by omega)).1, q2]
  have q4 : ∀ j, fl_i h4 28 j = fl_i h 28 j := fun j => by rw [(d4.2.2.2 28 j (by omega)).1, q3]
  have a1 : fl_i h1 28 1 = Int32.ofNat 0 := (q1 1).trans i1
  have a2 : fl_i h2 28 1 = Int32.ofNat 0 := (q2 1).trans i1
  have a3 : fl_i h3 28 1 = Int32.ofNat 0 := (q3 1).trans i1
  have a4 : fl_i h4 28 1 = Int32.ofNat 0 := (q4 1).trans i1
  have d5 : fl_df (fun q j => q = 28 ∧ j = 1) h4 (fl_wi h4 28 (fl_up (fl_i h4 28) 1 (Int32.ofNat (0 + 1)))) := fl_df_wiu fl_df_rfl ⟨rfl, rfl⟩
  have m5 : fl_i (fl_wi h4 28 (fl_up (fl_i h4 28) 1 (Int32.ofNat (0 + 1)))) 28 1 = Int32.ofNat 1 := by rw [fl_i_wi, if_pos rfl, fl_up_self]
  generalize h5e : fl_wi h4 28 (fl_up (fl_i h4 28) 1 (Int32.ofNat (0 + 1))) = h5 at *
  have g5 := fn_G_df g4 d5
  have c5 : fl_i h5 28 3 = Int32.ofNat 0 := by rw [(d5.2.2.2 28 3 (by omega)).1, q4]; exact i3
  have d6 : fl_df (fun q j => q = 28 ∧ j = 3) h5 (fl_wi h5 28 (fl_up (fl_i h5 28) 3 (Int32.ofNat (0 + 0)))) := fl_df_wiu fl_df_rfl ⟨rfl, rfl⟩
  have m6 : fl_i (fl_wi h5 28 (fl_up (fl_i h5 28) 3 (Int32.ofNat (0 + 0)))) 28 3 = Int32.ofNat 0 := by rw [fl_i_wi, if_pos rfl, fl_up_self]
  generalize h6e : fl_wi h5 28 (fl_up (fl_i h5 28) 3 (Int32.ofNat (0 + 0))) = h6 at *
  have dT : fl_df fn_S21 h h6 := fl_df_tr (fl_df_mo d1 (fun q j z => by omega)) (fl_df_tr (fl_df_mo d2 (fun q j z => by omega)) (fl_df_tr (fl_df_mo d3 (fun q j z => by omega)) (fl_df_tr (fl_df_mo d4 (fun q j z => by omega)) (fl_df_tr (fl_df_mo d5 (fun q j z => by omega)) (fl_df_mo d6 (fun q j z => by omega))))))
  refine ⟨h6, ?_, dT, by rw [(d6.2.2.2 28 1 (by omega)).1]; exact m5, m6, ?_, ?_, ?_, ?_⟩
  · have e21 : fl_Rn fl_C 21 76 [some (.ref 28), some (.int (Int32.ofNat 0))] [] h5 = some (some none, h6) := by
      clear d1 d2 d3 d4 d5 d6 dT l1 l2 l3 l4 q1 q2 q3 q4 m5 m6
      rw [fbC_21_76]
      simp (disch := omega) only [fl_si_wi, g5.2.2.1, fl_lit, fl_nadd, fl_nmul, fl_ndiv, fl_nsub, fl_msub, fl_nle, fl_nlt, fl_neq, fl_nclamp, fl_nin, fl_ltT, fl_ltF, fl_leT, fl_leF, fl_eqT, fl_eqF, decide_true, decide_false, Bool.true_and, Bool.and_true, Bool.false_and, Bool.and_false, if_true, if_false, Bool.false_eq_true, Option.isSome_some, Option.getD_some, not_true_eq_false, not_false_eq_true, Option.toList_some, Option.toList_none, List.cons_append, List.nil_append, c5, h6e]
    clear d1 d2 d3 d4 d5 d6 dT l1 l2 l3 l4 q1 q2 q3 q4 m5 m6 h6e
    have nn : (-Int32.ofNat 1 = -Int32.ofNat 1) = True := eq_self _
    rw [fbE_21]
    simp (disch := omega) only [fl_si_wi, G.2.2.1, G.2.2.2.1, g1.2.2.1, g1.2.2.2.2.2.1, g2.2.2.1, g2.2.2.2.2.1, g3.2.2.1, g3.2.2.2.2.2.2.1, g4.2.2.1, fl_lit, fl_nadd, fl_nmul, fl_ndiv, fl_nsub, fl_msub, fl_nle, fl_nlt, fl_neq, fl_nclamp, fl_nin, fl_ltT, fl_ltF, fl_leT, fl_leF, fl_eqT, fl_eqF, decide_true, decide_false, Bool.true_and, Bool.and_true, Bool.false_and, Bool.and_false, if_true, if_false, Bool.false_eq_true, Option.isSome_some, Option.getD_some, not_true_eq_false, not_false_eq_true, Option.toList_some, Option.toList_none, List.cons_append, List.nil_append, i1, p1, fbP_21_13, a1, p2, fbP_21_26, nn, a2, p3, fbP_21_53, a3, p4, fbP_21_66, a4, h5e, e21]
  · rw [fl_df_l d6 (fun j => by omega), fl_df_l d5 (fun j => by omega), fl_df_l d4 (fun j => by omega), fl_df_l d3 (fun j => by omega), fl_df_l d2 (fun j => by omega), l1, fl_up_self]
    decide
  · rw [fl_df_l d6 (fun j => by omega), fl_df_l d5 (fun j => by omega), fl_df_l d4 (fun j => by omega), fl_df_l d3 (fun j => by omega), l2, fl_up_self]
    decide
  · rw [fl_df_l d6 (fun j => by omega), fl_df_l d5 (fun j => by omega), fl_df_l d4 (fun j => by omega), l3, fl_up_self]
  · rw [fl_df_l d6 (fun j => by omega), fl_df_l d5 (fun j => by omega), l4, fl_up_self]
    decide
end
