/-! MOVES of the class: what follows a state by a pattern -/
abbrev fl_isV (k0 : Nat → Nat × Nat) (a : Nat) : Prop := (fl_KK k0 a = (1, 3) ∧ fl_RR a 0 = some (a + 1) ∧ fl_RR a 1 = some (a + 10) ∧ fl_RR a 2 = some (a + 12) ∧ fl_RR a 3 = some (a + 14)) ∧ fl_isS k0 (a + 1) ∧ fl_isC k0 (a + 10) (a + 11) 432 ∧ fl_isC k0 (a + 12) (a + 13) 3024 ∧ fl_isC k0 (a + 14) (a + 15) 3024
section
variable {k0 : Nat → Nat × Nat} {h : fl_H} {g ρ : Nat → Nat} {a : Nat} {lv : Nat → Bool}
theorem fl_o217 : fl_isV k0 217 := ⟨⟨rfl, rfl, rfl, rfl, rfl⟩, fl_o218, ⟨rfl, rfl, rfl, by decide⟩, ⟨rfl, rfl, rfl, by decide⟩, ⟨rfl, rfl, rfl, by decide⟩⟩
theorem fl_o233 : fl_isV k0 233 := ⟨⟨rfl, rfl, rfl, rfl, rfl⟩, fl_o234, ⟨rfl, rfl, rfl, by decide⟩, ⟨rfl, rfl, rfl, by decide⟩, ⟨rfl, rfl, rfl, by decide⟩⟩
/-- the state at the start -/
theorem fc_208l (hg : fl_g k0 h) (w : fl_wf g) (d : fl_net h 28 g) : ∀ n k s p, k + n = g 0 → fl_Rn fl_C 208 9 [some (.ref 28), some (.int (Int32.ofNat s)), some (.int (Int32.ofNat p)), some (.int (Int32.ofNat k))] [] h = some (some (some (.int (Int32.ofNat (s + p * fl_cF g (fun k => g (40 + k)) n k)))), h)
  | 0, k, s, p, hk => by
    have o28 := (fl_sk28 (k0 := k0)).1.1
    have w0 : g 0 ≤ 12 := w.1.2.2.2.1
    have i1 := d.1.2.1
    rw [show k = g 0 by omega, fl_cF, Nat.mul_zero, Nat.add_zero]
    clear d w
    rw [fbC_208_9]
    simp (disch := omega) only [hg.1, o28, fl_lit, fl_nadd, fl_nmul, fl_ndiv, fl_nsub, fl_msub, fl_nle, fl_nlt, fl_neq, fl_nclamp, fl_nin, fl_ltT, fl_ltF, fl_leT, fl_leF, fl_eqT, fl_eqF, decide_true, decide_false, Bool.true_and, Bool.and_true, Bool.false_and, Bool.and_false, if_true, if_false, Bool.false_eq_true, Option.isSome_some, Option.getD_some, not_true_eq_false, not_false_eq_true, Option.toList_some, Option.toList_none, List.cons_append, List.nil_append, i1]
  | n + 1, k, s, p, hk => by
    have N := fl_sk28 (k0 := k0)
    have o28 := N.1
    have o35 := N.2.2.2.2.1.1
    have w0 : g 0 ≤ 12 := w.1.2.2.2.1
    have kl : k < g 0 := by omega
    have e65 := fc_65 hg N w d kl
    have e24 := fc_int N.2.2.2.2.1 hg (show k < 12 by omega)
    rw [d.2.2.2.2.1 k kl] at e24
    have i1 := d.1.2.1
    have ih := fc_208l hg w d n (k + 1)
    by_cases e : g (4 + k) = 8
    · rw [if_pos e] at e65 e24
      rw [fl_o32] at e24
      have ih1 := ih (s + p * g (40 + k)) (p * 3) (by omega)
      have ar : s + p * fl_cF g (fun k => g (40 + k)) (n + 1) k = s + p * g (40 + k) + p * 3 * fl_cF g (fun k => g (40 + k)) n (k + 1) := by
        rw [fl_cF, if_pos e, Nat.mul_add, Nat.mul_assoc, Nat.add_assoc]
      rw [ar]
      clear d w ih N ar
      rw [fbC_208_9]
      simp (disch := omega) only [hg.1, hg.2, o28, o35, fl_lit, fl_nadd, fl_nmul, fl_ndiv, fl_nsub, fl_msub, fl_nle, fl_nlt, fl_neq, fl_nclamp, fl_nin, fl_ltT, fl_ltF, fl_leT, fl_leF, fl_eqT, fl_eqF, decide_true, decide_false, Bool.true_and, Bool.and_true, Bool.false_and, Bool.and_false, if_true, if_false, Bool.false_eq_true, Option.isSome_some, Option.getD_some, not_true_eq_false, not_false_eq_true, Option.toList_some, Option.toList_none, List.cons_append, List.nil_append, i1, e65, fbP_208_22, e24, fbP_208_35, fbC_208_42, ih1]
    · rw [if_neg e] at e65
      have ih1 := ih s p (by omega)
      rw [fl_cF, if_neg e]
      clear d w ih N e24
      rw [fbC_208_9]
      simp (disch := omega) only [hg.1, hg.2, o28, fl_lit, fl_nadd, fl_nmul, fl_ndiv, fl_nsub, fl_msub, fl_nle, fl_nlt, fl_neq, fl_nclamp, fl_nin, fl_ltT, fl_ltF, fl_leT, fl_leF, fl_eqT, fl_eqF, decide_true, decide_false, Bool.true_and, Bool.and_true, Bool.false_and, Bool.and_false, if_true, if_false, Bool.false_eq_true, Option.isSome_some, Option.getD_some, not_true_eq_false, not_false_eq_true, Option.toList_some, Option.toList_none, List.cons_append, List.nil_append, i1, e65, fbP_208_22, fbC_208_42, ih1]
theorem fc_208 (hg : fl_g k0 h) (w : fl_wf g) (d : fl_net h 28 g) : fl_cl fl_C 208 [.ref 28] h = some (some (some (.int (Int32.ofNat (fl_cc g (fun k => g (40 + k)))))), h) := by
  have o28 := (fl_sk28 (k0 := k0)).1.1
  have w1 : g 1 ≤ g 0 := w.1.2.2.1
  have i0 := d.1.1
  have l := fc_208l hg w d (g 0 - g 1) (g 1) 0 1 (by omega)
  rw [Nat.zero_add, Nat.one_mul] at l
  rw [fbE_208, hg.1, o28, fl_ifd rfl, i0]
  exact l
theorem fc_25 {o : Nat} (hg : fl_g k0 h) (ss : fl_isS k0 o) {k x : Nat} (hk : k < 12) (hx : x ≤ 2) : fl_cl fl_C 25 [.ref o, .int (Int32.ofNat k), .int (Int32.ofNat x)] h = some (some none, fl_ww h (o + 6) (o + 8) (fl_up (fl_l h (o + 6)) k (fl_B (fun _ => decide (x = 1)))) (fl_up (fl_l h (o + 8)) k (fl_B (fun _ => decide (x = 0))))) := by
  have o1 := ss.1
  have c6 := ss.2.2.2.1.1
  have c8 := ss.2.2.2.2.1
  have p6 := fun v => fc_put ss.2.2.2.1 hg hk v
  have g6 : ∀ v, fl_g k0 (fl_wl h (o + 5 + 1) v) := fun v => hg
  have p8 : ∀ A v, fl_cl fl_C 20 [.ref (o + 7), .int (Int32.ofNat k), .long v] (fl_wl h (o + 6) A) = some (some none, fl_ww h (o + 6) (o + 8) A (fl_up (fl_l h (o + 8)) k v)) := fun A v => by
    rw [fc_put ss.2.2.2.2 (show fl_g k0 (fl_wl h (o + 6) A) from hg) hk, fl_l_wl, if_neg (by omega)]
    rfl
  have gk : ∀ A, fl_k (fl_wl h (o + 6) A) = fl_KK k0 := fun A => hg.1
  have gr : ∀ A, fl_r (fl_wl h (o + 6) A) = fl_RR := fun A => hg.2
  clear g6 ss
  rcases (show x = 0 ∨ x = 1 ∨ x = 2 by omega) with e | e | e <;> subst e
  · rw [show fl_B (fun _ => decide (0 = 1)) = 0 from fl_B_0.symm, show fl_B (fun _ => decide (0 = 0)) = -1 from fl_B_m1.symm, fbE_25]
    simp (disch := omega) only [hg.1, hg.2, o1, c6, c8, fl_lit, fl_nadd, fl_nmul, fl_ndiv, fl_nsub, fl_msub, fl_nle, fl_nlt, fl_neq, fl_nclamp, fl_nin, fl_ltT, fl_ltF, fl_leT, fl_leF, fl_eqT, fl_eqF, decide_true, decide_false, Bool.true_and, Bool.and_true, Bool.false_and, Bool.and_false, if_true, if_false, Bool.false_eq_true, Option.isSome_some, Option.getD_some, not_true_eq_false, not_false_eq_true, Option.toList_some, Option.toList_none, List.cons_append, List.nil_append, p6, fbP_25_20, gk, gr, p8, fbP_25_39]
  · rw [show fl_B (fun _ => decide (1 = 1)) = -1 from fl_B_m1.symm, show fl_B (fun _ => decide (1 = 0)) = 0 from fl_B_0.symm, fbE_25]
    simp (disch := omega) only [hg.1, hg.2, o1, c6, c8, fl_lit, fl_nadd, fl_nmul, fl_ndiv, fl_nsub, fl_msub, fl_nle, fl_nlt, fl_neq, fl_nclamp, fl_nin, fl_ltT, fl_ltF, fl_leT, fl_leF, fl_eqT, fl_eqF, decide_true, decide_false, Bool.true_and, Bool.and_true, Bool.false_and, Bool.and_false, if_true, if_false, Bool.false_eq_true, Option.isSome_some, Option.getD_some, not_true_eq_false, not_false_eq_true, Option.toList_some, Option.toList_none, List.cons_append, List.nil_append, p6, fbP_25_20, gk, gr, p8, fbP_25_39]
  · rw [show fl_B (fun _ => decide (2 = 1)) = 0 from fl_B_0.symm, show fl_B (fun _ => decide (2 = 0)) = 0 from fl_B_0.symm, fbE_25]
    simp (disch := omega) only [hg.1, hg.2, o1, c6, c8, fl_lit, fl_nadd, fl_nmul, fl_ndiv, fl_nsub, fl_msub, fl_nle, fl_nlt, fl_neq, fl_nclamp, fl_nin, fl_ltT, fl_ltF, fl_leT, fl_leF, fl_eqT, fl_eqF, decide_true, decide_false, Bool.true_and, Bool.and_true, Bool.false_and, Bool.and_false, if_true, if_false, Bool.false_eq_true, Option.isSome_some, Option.getD_some, not_true_eq_false, not_false_eq_true, Option.toList_some, Option.toList_none, List.cons_append, List.nil_append, p6, fbP_25_20, gk, gr, p8, fbP_25_39]
end
