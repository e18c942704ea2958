/-! MOVES: the state behind; whether it shows -/
section
variable {k0 : Nat → Nat × Nat} {h : fl_H} {g ρ : Nat → Nat} {a : Nat} {lv : Nat → Bool}
theorem fc_215l (V : fl_isV k0 a) (hg : fl_g k0 h) (w : fl_wf g) (d : fl_net h 28 g) {e n c : Nat} (hc : c < 64) (he : e < 432) (r2 : fl_r2 g ρ) (E : fl_ec h a lv g e n ρ) : ∀ m k s p, k + m = g 0 → fl_Rn fl_C 215 9 [some (.ref a), some (.ref 28), some (.int (Int32.ofNat e)), some (.int (Int32.ofNat c)), some (.int (Int32.ofNat s)), some (.int (Int32.ofNat p)), some (.int (Int32.ofNat (fl_nr g k)))] [] h = some (some (some (.int (Int32.ofNat (s + p * fl_cF g (fl_nxt g (fl_fa lv c) n ρ) m k)))), h)
  | 0, k, s, p, hk => by
    have o28 := (fl_sk28 (k0 := k0)).1.1
    have i3 : fl_i h 28 3 = Int32.ofNat (fl_nr g (g 0)) := d.1.2.2.2.1
    have n3 := fl_nr_3 w (Nat.le_refl (g 0))
    rw [show k = g 0 by omega, fl_cF, Nat.mul_zero, Nat.add_zero]
    clear d w
    generalize fl_nr g (g 0) = K at *
    rw [fbC_215_9]
    simp (disch := omega) only [hg.1, o28, fl_lit, fl_nadd, fl_nmul, fl_ndiv, fl_nsub, fl_msub, fl_nle, fl_nlt, fl_neq, fl_nclamp, fl_nin, fl_ltT, fl_ltF, fl_leT, fl_leF, fl_eqT, fl_eqF, decide_true, decide_false, Bool.true_and, Bool.and_true, Bool.false_and, Bool.and_false, if_true, if_false, Bool.false_eq_true, Option.isSome_some, Option.getD_some, not_true_eq_false, not_false_eq_true, Option.toList_some, Option.toList_none, List.cons_append, List.nil_append, i3]
  | m + 1, k, s, p, hk => by
    have ih := fc_215l V hg w d hc he r2 E m (k + 1)
    by_cases h8 : g (4 + k) = 8
    · have kl : k < g 0 := by omega
      have o28 := (fl_sk28 (k0 := k0)).1.1
      have i3 : fl_i h 28 3 = Int32.ofNat (fl_nr g (g 0)) := d.1.2.2.2.1
      have n3 := fl_nr_3 w (Nat.le_refl (g 0))
      have nl := fl_nr_mo (g := g) (k := k + 1) (g 0 - (k + 1))
      rw [show k + 1 + (g 0 - (k + 1)) = g 0 by omega, fl_nr_y h8] at nl
      rw [fl_nr_y h8] at ih
      have c1 := E.1 k kl h8
      have e1 := fc_at V.2.2.2.1 hg (show e * 7 + fl_nr g k < 3024 by omega)
      have e0 := fc_at V.2.2.2.2 hg (show e * 7 + fl_nr g k < 3024 by omega)
      rw [c1.1] at e1
      rw [c1.2] at e0
      have b1 := fc_120 (h := h) (fl_B (fun c => decide (fl_nxt g (fl_fa lv c) n ρ k = 1))) hc
      have b0 := fc_120 (h := h) (fl_B (fun c => decide (fl_nxt g (fl_fa lv c) n ρ k = 0))) hc
      rw [fl_hb_B _ hc] at b1 b0
      have t2 := fl_nx_r2 w (f := fl_fa lv c) (n := n) r2 k kl
      have ar : ∀ x, fl_nxt g (fl_fa lv c) n ρ k = x → s + p * fl_cF g (fl_nxt g (fl_fa lv c) n ρ) (m + 1) k = s + p * x + p * 3 * fl_cF g (fl_nxt g (fl_fa lv c) n ρ) m (k + 1) := fun x hx => by
        rw [fl_cF, if_pos h8, hx, Nat.mul_add, Nat.mul_assoc, Nat.add_assoc]
      have v1 := V.1
      have c12 := V.2.2.2.1.1
      have c14 := V.2.2.2.2.1
      have bb : ∀ x y : Nat, x ≠ y → (if decide (x = y) = true then Int32.ofNat 1 else Int32.ofNat 0) = Int32.ofNat 0 := fun x y q => by rw [decide_eq_false q]; rfl
      have bt : ∀ x y : Nat, x = y → (if decide (x = y) = true then Int32.ofNat 1 else Int32.ofNat 0) = Int32.ofNat 1 := fun x y q => by rw [decide_eq_true q]; rfl
      rcases (show fl_nxt g (fl_fa lv c) n ρ k = 1 ∨ fl_nxt g (fl_fa lv c) n ρ k = 0 ∨ fl_nxt g (fl_fa lv c) n ρ k = 2 by omega) with x | x | x
      · have ih1 := ih (s + p * 1) (p * 3) (by omega)
        rw [ar 1 x]
        rw [bt _ _ x] at b1
        clear d w V E r2 ar ih b0 e0 c1 bb bt
        generalize fl_B (fun c => decide (fl_nxt g (fl_fa lv c) n ρ k = 1)) = B1 at *
        generalize fl_cF g (fl_nxt g (fl_fa lv c) n ρ) m (k + 1) = R at *
        generalize fl_nr g (g 0) = K at *
        generalize fl_nr g k = I at *
        rw [fbC_215_9]
        simp (disch := omega) only [hg.1, hg.2, o28, v1, c12, fl_lit, fl_nadd, fl_nmul, fl_ndiv, fl_nsub, fl_msub, fl_nle, fl_nlt, fl_neq, fl_nclamp, fl_nin, fl_ltT, fl_ltF, fl_leT, fl_leF, fl_eqT, fl_eqF, decide_true, decide_false, Bool.true_and, Bool.and_true, Bool.false_and, Bool.and_false, if_true, if_false, Bool.false_eq_true, Option.isSome_some, Option.getD_some, not_true_eq_false, not_false_eq_true, Option.toList_some, Option.toList_none, List.cons_append, List.nil_append, i3, e1, fbP_215_36, b1, fbP_215_40, ih1]
      · have ih1 := ih (s + p * 0) (p * 3) (by omega)
        rw [ar 0 x]
        rw [bb _ _ (by omega)] at b1
        rw [bt _ _ x] at b0
        clear d w V E r2 ar ih c1 bb bt
        generalize fl_B (fun c => decide (fl_nxt g (fl_fa lv c) n ρ k = 1)) = B1 at *
        generalize fl_B (fun c => decide (fl_nxt g (fl_fa lv c) n ρ k = 0)) = B0 at *
        generalize fl_cF g (fl_nxt g (fl_fa lv c) n ρ) m (k + 1) = R at *
        generalize fl_nr g (g 0) = K at *
        generalize fl_nr g k = I at *
        rw [fbC_215_9]
        simp (disch := omega) only [hg.1, hg.2, o28, v1, c12, c14, fl_lit, fl_nadd, fl_nmul, fl_ndiv, fl_nsub, fl_msub, fl_nle, fl_nlt, fl_neq, fl_nclamp, fl_nin, fl_ltT, fl_ltF, fl_leT, fl_leF, fl_eqT, fl_eqF, decide_true, decide_false, Bool.true_and, Bool.and_true, Bool.false_and, Bool.and_false, if_true, if_false, Bool.false_eq_true, Option.isSome_some, Option.getD_some, not_true_eq_false, not_false_eq_true, Option.toList_some, Option.toList_none, List.cons_append, List.nil_append, i3, e1, fbP_215_36, b1, fbP_215_40, e0, fbP_215_56, b0, fbP_215_60, ih1]
      · have ih1 := ih (s + p * 2) (p * 3) (by omega)
        rw [ar 2 x]
        rw [bb _ _ (by omega)] at b1
        rw [bb _ _ (by omega)] at b0
        clear d w V E r2 ar ih c1 bb bt
        generalize fl_B (fun c => decide (fl_nxt g (fl_fa lv c) n ρ k = 1)) = B1 at *
        generalize fl_B (fun c => decide (fl_nxt g (fl_fa lv c) n ρ k = 0)) = B0 at *
        generalize fl_cF g (fl_nxt g (fl_fa lv c) n ρ) m (k + 1) = R at *
        generalize fl_nr g (g 0) = K at *
        generalize fl_nr g k = I at *
        rw [fbC_215_9]
        simp (disch := omega) only [hg.1, hg.2, o28, v1, c12, c14, fl_lit, fl_nadd, fl_nmul, fl_ndiv, fl_nsub, fl_msub, fl_nle, fl_nlt, fl_neq, fl_nclamp, fl_nin, fl_ltT, fl_ltF, fl_leT, fl_leF, fl_eqT, fl_eqF, decide_true, decide_false, Bool.true_and, Bool.and_true, Bool.false_and, Bool.and_false, if_true, if_false, Bool.false_eq_true, Option.isSome_some, Option.getD_some, not_true_eq_false, not_false_eq_true, Option.toList_some, Option.toList_none, List.cons_append, List.nil_append, i3, e1, fbP_215_36, b1, fbP_215_40, e0, fbP_215_56, b0, fbP_215_60, ih1]
    · rw [fl_cF, if_neg h8, ← fl_nr_n h8]
      exact ih s p (by omega)
theorem fc_215 (V : fl_isV k0 a) (hg : fl_g k0 h) (w : fl_wf g) (d : fl_net h 28 g) {e n c : Nat} (hc : c < 64) (he : e < 432) (r2 : fl_r2 g ρ) (E : fl_ec h a lv g e n ρ) : fl_cl fl_C 215 [.ref a, .ref 28, .int (Int32.ofNat e), .int (Int32.ofNat c)] h = some (some (some (.int (Int32.ofNat (fl_cc g (fl_nxt g (fl_fa lv c) n ρ))))), h) := by
  have w1 : g 1 ≤ g 0 := w.1.2.2.1
  have l := fc_215l V hg w d hc he r2 E (g 0 - g 1) (g 1) 0 1 (by omega)
  rw [Nat.zero_add, Nat.one_mul, fl_nr_0 w _ (Nat.le_refl _)] at l
  rw [fbE_215]
  exact l
theorem fc_214 {b : Nat} {σ : Nat → Nat} (V : fl_isV k0 a) (U : fl_isV k0 b) (hg : fl_g k0 h) (w : fl_wf g) (d : fl_net h 28 g) {e i n c : Nat} (hc : c < 64) (he : e < 432) (hi : i < 432) (r2 : fl_r2 g ρ) (s2 : fl_r2 g σ) (E : fl_ec h a lv g e n ρ) (G : fl_ec h b (fun _ => false) g i n σ) : fl_cl fl_C 214 [.ref a, .ref 28, .int (Int32.ofNat e), .int (Int32.ofNat c), .ref b, .int (Int32.ofNat i)] h = some (some (some (.int (if fl_any (fl_sq g (fl_vv g 64 n σ) (fl_vv g (fl_fa lv c) n ρ)) (g 3) = true then Int32.ofNat 1 else Int32.ofNat 0))), h) := by
  have o28 := (fl_sk28 (k0 := k0)).1.1
  have w3 : g 3 ≤ 4 := w.1.2.2.2.2.2.2.1
  have i4 := d.1.2.2.2.2
  have v1 := V.1
  have c12 := V.2.2.2.1.1
  have c14 := V.2.2.2.2.1
  have u1 := U.1
  have k12 := U.2.2.2.1.1
  have k14 := U.2.2.2.2.1
  have lp := fl_iter (fun j => fl_Rn fl_C 214 6 [some (.ref a), some (.ref 28), some (.int (Int32.ofNat e)), some (.int (Int32.ofNat c)), some (.ref b), some (.int (Int32.ofNat i)), some (.long (fl_B (fun c => fl_any (fl_sq g (fl_vv g 64 n σ) (fl_vv g (fl_fa lv c) n ρ)) j))), none, some (.int (Int32.ofNat j))] [] h) (g 3) (fun j hj => by
    have e1 := fc_at V.2.2.2.1 hg (show e * 7 + 3 + j < 3024 by omega)
    have e0 := fc_at V.2.2.2.2 hg (show e * 7 + 3 + j < 3024 by omega)
    have f1 := fc_at U.2.2.2.1 hg (show i * 7 + 3 + j < 3024 by omega)
    have f0 := fc_at U.2.2.2.2 hg (show i * 7 + 3 + j < 3024 by omega)
    rw [(E.2 j hj).1] at e1
    rw [(E.2 j hj).2] at e0
    rw [(G.2 j hj).1] at f1
    rw [(G.2 j hj).2] at f0
    have fin : fl_B (fun c => fl_any (fl_sq g (fl_vv g 64 n σ) (fl_vv g (fl_fa lv c) n ρ)) (j + 1)) = fl_B (fun c => fl_any (fl_sq g (fl_vv g 64 n σ) (fl_vv g (fl_fa lv c) n ρ)) j) ||| ((fl_B (fun c => decide (fl_vv g (fl_fa lv c) n ρ (g (72 + j)) = 1)) &&& fl_B (fun c => decide (fl_vv g (fl_fa (fun _ => false) c) n σ (g (72 + j)) = 0))) ||| (fl_B (fun c => decide (fl_vv g (fl_fa lv c) n ρ (g (72 + j)) = 0)) &&& fl_B (fun c => decide (fl_vv g (fl_fa (fun _ => false) c) n σ (g (72 + j)) = 1)))) := by
      rw [fl_B_and, fl_B_and, fl_B_or, fl_B_or]
      refine fl_B_congr (fun c _ => ?_)
      rw [fl_any, show fl_fa (fun _ => false) c = 64 from rfl, fl_sqb (fl_vv_le w s2 _) (fl_vv_le w r2 _)]
      rfl
    rw [fin]
    clear d w V U E G r2 s2 fin
    generalize fl_B (fun c => fl_any (fl_sq g (fl_vv g 64 n σ) (fl_vv g (fl_fa lv c) n ρ)) j) = O at *
    generalize fl_B (fun c => decide (fl_vv g (fl_fa lv c) n ρ (g (72 + j)) = 1)) = B1 at *
    generalize fl_B (fun c => decide (fl_vv g (fl_fa lv c) n ρ (g (72 + j)) = 0)) = B0 at *
    generalize fl_B (fun c => decide (fl_vv g (fl_fa (fun _ => false) c) n σ (g (72 + j)) = 1)) = G1 at *
    generalize fl_B (fun c => decide (fl_vv g (fl_fa (fun _ => false) c) n σ (g (72 + j)) = 0)) = G0 at *
    rw [fbC_214_6]
    simp (disch := omega) only [hg.1, hg.2, o28, v1, u1, c12, c14, k12, k14, fl_lit, fl_nadd, fl_nmul, fl_ndiv, fl_nsub, fl_msub, fl_nle, fl_nlt, fl_neq, fl_nclamp, fl_nin, fl_ltT, fl_ltF, fl_leT, fl_leF, fl_eqT, fl_eqF, decide_true, decide_false, Bool.true_and, Bool.and_true, Bool.false_and, Bool.and_false, if_true, if_false, Bool.false_eq_true, Option.isSome_some, Option.getD_some, not_true_eq_false, not_false_eq_true, Option.toList_some, Option.toList_none, List.cons_append, List.nil_append, i4, e1, fbP_214_49, f0, fbP_214_59, e0, fbP_214_69, f1, fbP_214_79])
  rw [show fl_B (fun c => fl_any (fl_sq g (fl_vv g 64 n σ) (fl_vv g (fl_fa lv c) n ρ)) 0) = 0 from fl_B_0.symm] at lp
  have b120 := fc_120 (h := h) (fl_B (fun c => fl_any (fl_sq g (fl_vv g 64 n σ) (fl_vv g (fl_fa lv c) n ρ)) (g 3))) hc
  rw [fl_hb_B _ hc] at b120
  have en : fl_Rn fl_C 214 6 [some (.ref a), some (.ref 28), some (.int (Int32.ofNat e)), some (.int (Int32.ofNat c)), some (.ref b), some (.int (Int32.ofNat i)), some (.long (fl_B (fun c => fl_any (fl_sq g (fl_vv g 64 n σ) (fl_vv g (fl_fa lv c) n ρ)) (g 3)))), none, some (.int (Int32.ofNat (g 3)))] [] h = some (some (some (.int (if fl_any (fl_sq g (fl_vv g 64 n σ) (fl_vv g (fl_fa lv c) n ρ)) (g 3) = true then Int32.ofNat 1 else Int32.ofNat 0))), h) := by
    clear d w V U E G r2 s2 lp
    generalize fl_B (fun c => fl_any (fl_sq g (fl_vv g 64 n σ) (fl_vv g (fl_fa lv c) n ρ)) (g 3)) = O at *
    generalize fl_any (fl_sq g (fl_vv g 64 n σ) (fl_vv g (fl_fa lv c) n ρ)) (g 3) = q at *
    cases q with
    | true =>
      rw [if_pos rfl] at b120 ⊢
      rw [fbC_214_6]
      simp (disch := omega) only [hg.1, hg.2, o28, fl_lit, fl_nadd, fl_nmul, fl_ndiv, fl_nsub, fl_msub, fl_nle, fl_nlt, fl_neq, fl_nclamp, fl_nin, fl_ltT, fl_ltF, fl_leT, fl_leF, fl_eqT, fl_eqF, decide_true, decide_false, Bool.true_and, Bool.and_true, Bool.false_and, Bool.and_false, if_true, if_false, Bool.false_eq_true, Option.isSome_some, Option.getD_some, not_true_eq_false, not_false_eq_true, Option.toList_some, Option.toList_none, List.cons_append, List.nil_append, i4, b120, fbP_214_96, fl_bT]
    | false =>
      rw [if_neg (by decide)] at b120 ⊢
      rw [fbC_214_6]
      simp (disch := omega) only [hg.1, hg.2, o28, fl_lit, fl_nadd, fl_nmul, fl_ndiv, fl_nsub, fl_msub, fl_nle, fl_nlt, fl_neq, fl_nclamp, fl_nin, fl_ltT, fl_ltF, fl_leT, fl_leF, fl_eqT, fl_eqF, decide_true, decide_false, Bool.true_and, Bool.and_true, Bool.false_and, Bool.and_false, if_true, if_false, Bool.false_eq_true, Option.isSome_some, Option.getD_some, not_true_eq_false, not_false_eq_true, Option.toList_some, Option.toList_none, List.cons_append, List.nil_append, i4, b120, fbP_214_96, fl_bF]
  rw [fbE_214]
  exact lp.trans en
end
