/-! count -/
def fl_lsm (g : Nat → Nat) : Nat → Nat
  | 0 => 0
  | k + 1 => fl_lsm g k + fl_cnt (fl_hb (fl_vs g false k)) 64
def fl_cnv (g : Nat → Nat) (s : Int64) (tn rn : Nat) (j : Nat) : Int32 :=
  if j = 0 then Int32.ofNat (g 0) else if j = 1 then Int32.ofNat (g 1) else if j = 2 then Int32.ofNat (fl_cnt (fun k => decide (g (4 + k) = 8)) (g 0)) else if j = 3 then Int32.ofNat (g 2) else if j = 4 then Int32.ofNat (g 3) else if j = 5 then Int32.ofNat (2 * (g 0 + g 2)) else if j = 6 then Int32.ofNat (g 76) else
  if j = 7 then Int32.ofNat (fl_cnt (fl_hb (fl_bs (fun f => fl_any (fl_shn g f (fl_ps g)) (g 76)) (2 * (g 0 + g 2)))) 64) else if j = 8 then Int32.ofNat (g 77) else if j = 9 then Int32.ofNat (fl_cnt (fl_hb s) 64) else if j = 10 then Int32.ofNat (if g 76 = 0 then 0 else fl_lsm g (g 0)) else if j = 11 then Int32.ofNat rn else if j = 12 then Int32.ofNat tn else -1
section
variable {k0 : Nat → Nat × Nat} {h h' : fl_H} {c : Nat × Nat × Nat × Bool}
theorem fl_lsm_le {g : Nat → Nat} : ∀ k, fl_lsm g k ≤ 64 * k
  | 0 => Nat.le_refl _
  | k + 1 => by
    have := fl_lsm_le (g := g) k
    have := fl_cnt_le (q := fl_hb (fl_vs g false k)) 64
    unfold fl_lsm
    omega
theorem fl_dl_vs {g : Nat → Nat} {s : Int64} (w : fl_wf g) (d : fl_rn h 27 g s) {k : Nat} (hk : k < g 0) (hn : 0 < g 76) : fl_dl h (27 + 14) k = fl_vs g false k := by
  have w1 := w.1
  have dv := d.2.2.2.2.2.1 hn k hk
  have gv := fl_vl_le2 w hn k
  have cg : ∀ c, ¬ c < 2 * (g 0 + g 2) → fl_cvn g c = fl_vl g 64 (fl_ps g) (g 76 - 1) := fun c hc => if_neg hc
  unfold fl_dl fl_vs
  rw [dv.1.1, dv.1.2, dv.2.1, dv.2.2, fl_B_and, fl_B_and, fl_B_or]
  refine fl_B_congr fun c _ => ?_
  rw [fl_vq0 (fl_cvn_le w hn c k) gv]
  by_cases cf : c < 2 * (g 0 + g 2)
  · rw [decide_eq_true cf, Bool.true_and]
  · rw [decide_eq_false cf, Bool.false_and, cg c cf, fl_vq_self]
theorem fc_256 {g : Nat → Nat} {s : Int64} (hg : fl_g k0 h) (w : fl_wf g) (d : fl_rn h 27 g s) (hn : 0 < g 76) : fl_cl fl_C 256 [.ref (27 + 14), .ref (27 + 1)] h = some (some (some (.int (Int32.ofNat (fl_lsm g (g 0))))), h) := by
  have O := fl_o27 (k0 := k0)
  have w0 : g 0 ≤ 12 := w.1.2.2.2.1
  have o28 : fl_KK k0 (27 + 1) = (1, 4) := O.2.1.1.1
  have o41 : fl_KK k0 (27 + 14) = (1, 0) := O.2.2.1.1.1
  have i1 := d.1.1.2.1
  have e118 : ∀ k, k < g 0 → fl_cl fl_C 118 [.ref (27 + 14), .int (Int32.ofNat k)] h = some (some (some (.long (fl_vs g false k))), h) := fun k hk => by
    rw [fc_118 hg O.2.2.1 (show k < 12 by omega), fl_dl_vs w d hk hn]
  clear w d
  have lp := fl_iter (fun k => fl_Rn fl_C 256 4 [some (.ref (27 + 14)), some (.ref (27 + 1)), some (.int (Int32.ofNat (fl_lsm g k))), some (.int (Int32.ofNat k))] [] h) (g 0) (by
    intro k hk
    try dsimp only
    have e := e118 k hk
    have b := fc_126 (h := h) (fl_vs g false k)
    have l := fl_lsm_le (g := g) k
    have l2 := fl_cnt_le (q := fl_hb (fl_vs g false k)) 64
    rw [fl_lsm]
    clear e118
    rw [fbC_256_4]
    simp (disch := omega) only [hg.1, o28, o41, fl_lit, fl_nadd, fl_nmul, fl_ndiv, fl_nsub, fl_msub, fl_nle, fl_nlt, fl_neq, fl_nclamp, fl_nin, fl_ltT, fl_ltF, fl_leT, fl_leF, fl_eqT, fl_eqF, decide_true, decide_false, Bool.true_and, Bool.and_true, Bool.false_and, Bool.and_false, if_true, if_false, Bool.false_eq_true, Option.isSome_some, Option.getD_some, not_true_eq_false, not_false_eq_true, Option.toList_some, Option.toList_none, List.cons_append, List.nil_append, i1, e, fbP_256_18, b, fbP_256_21])
  clear e118
  rw [fbE_256]
  refine lp.trans ?_
  try dsimp only
  rw [fbC_256_4]
  simp (disch := omega) only [hg.1, o28, fl_lit, fl_nadd, fl_nmul, fl_ndiv, fl_nsub, fl_msub, fl_nle, fl_nlt, fl_neq, fl_nclamp, fl_nin, fl_ltT, fl_ltF, fl_leT, fl_leF, fl_eqT, fl_eqF, decide_true, decide_false, Bool.true_and, Bool.and_true, Bool.false_and, Bool.and_false, if_true, if_false, Bool.false_eq_true, Option.isSome_some, Option.getD_some, not_true_eq_false, not_false_eq_true, Option.toList_some, Option.toList_none, List.cons_append, List.nil_append, i1]
theorem fo_count_a {g : Nat → Nat} {s : Int64} (hg : fl_g k0 h) (w : fl_wf g) (d : fl_rn h 27 g s) {tn rn : Nat} (ht : tn ≤ 80) (hr : rn ≤ 6) (e1 : fl_i h 1 2 = Int32.ofNat tn) (e4 : fl_i h 4 2 = Int32.ofNat rn) (p : Int32) : fl_cl fl_C 257 [.ref 0, .int p] h = some (some (some (.int (if fl_in p 13 = true then fl_cnv g s tn rn p.toNatClampNeg else -1))), h) := by
  have O := fl_o27 (k0 := k0)
  have w1 := w.1
  have o27 : fl_KK k0 27 = (1, 7) ∧ fl_RR 27 0 = some (27 + 1) ∧ fl_RR 27 1 = some (27 + 14) := ⟨O.1.1, O.1.2.1, O.1.2.2.1⟩
  have o28 : fl_KK k0 (27 + 1) = (1, 4) := O.2.1.1.1
  have o41 : fl_KK k0 (27 + 14) = (1, 0) := O.2.2.1.1.1
  have o1 : fl_KK k0 1 = (1, 5) := fl_o1.1.1
  have o4 : fl_KK k0 4 = (1, 5) := fl_o4.1.1
  have i := d.1.1
  have e66 := fc_66 hg O.2.1 w d.1
  have i3 := d.2.1.1
  have i4 := d.2.1.2
  have l5 := d.2.2.1.1
  rw [← fl_bs_F (by omega)] at l5
  have l7 := d.2.2.1.2.2.1
  have e256 := fun z => fc_256 hg w d z
  have w7 : g 77 ≤ 1 := w1.2.2.2.2.2.2.2.2
  have w6 : g 76 ≤ 24 := w1.2.2.2.2.2.2.2.1
  have w0 : g 0 ≤ 12 := w1.2.2.2.1
  have ll := fl_lsm_le (g := g) (g 0)
  clear w w1 d O
  by_cases c0 : fl_in p 13 = true
  · rw [if_pos c0]
    obtain ⟨j, hj, rfl⟩ := fl_in_ex c0
    rw [fl_nclamp (show j < 2147483648 by omega)]
    have b5 := fc_126 (h := h) (fl_bs (fun f => fl_any (fl_shn g f (fl_ps g)) (g 76)) (2 * (g 0 + g 2)))
    have b7 := fc_126 (h := h) s
    clear c0
    rw [fbE_257]
    rcases (show j = 0 ∨ j = 1 ∨ j = 2 ∨ j = 3 ∨ j = 4 ∨ j = 5 ∨ j = 6 ∨ j = 7 ∨ j = 8 ∨ j = 9 ∨ j = 10 ∨ j = 11 ∨ j = 12 by omega) with e | e | e | e | e | e | e | e | e | e | e | e | e <;> subst e
    · simp (disch := omega) only [hg.1, hg.2, fl_KF, fl_RF, o27, o28, fl_lit, fl_nadd, fl_nmul, fl_ndiv, fl_nsub, fl_msub, fl_nle, fl_nlt, fl_neq, fl_nclamp, fl_nin, fl_ltT, fl_ltF, fl_leT, fl_leF, fl_eqT, fl_eqF, decide_true, decide_false, Bool.true_and, Bool.and_true, Bool.false_and, Bool.and_false, if_true, if_false, Bool.false_eq_true, Option.isSome_some, Option.getD_some, not_true_eq_false, not_false_eq_true, Option.toList_some, Option.toList_none, List.cons_append, List.nil_append, i]; rfl
    · simp (disch := omega) only [hg.1, hg.2, fl_KF, fl_RF, o27, o28, fl_lit, fl_nadd, fl_nmul, fl_ndiv, fl_nsub, fl_msub, fl_nle, fl_nlt, fl_neq, fl_nclamp, fl_nin, fl_ltT, fl_ltF, fl_leT, fl_leF, fl_eqT, fl_eqF, decide_true, decide_false, Bool.true_and, Bool.and_true, Bool.false_and, Bool.and_false, if_true, if_false, Bool.false_eq_true, Option.isSome_some, Option.getD_some, not_true_eq_false, not_false_eq_true, Option.toList_some, Option.toList_none, List.cons_append, List.nil_append, i]; rfl
    · simp (disch := omega) only [hg.1, hg.2, fl_KF, fl_RF, o27, o28, fl_lit, fl_nadd, fl_nmul, fl_ndiv, fl_nsub, fl_msub, fl_nle, fl_nlt, fl_neq, fl_nclamp, fl_nin, fl_ltT, fl_ltF, fl_leT, fl_leF, fl_eqT, fl_eqF, decide_true, decide_false, Bool.true_and, Bool.and_true, Bool.false_and, Bool.and_false, if_true, if_false, Bool.false_eq_true, Option.isSome_some, Option.getD_some, not_true_eq_false, not_false_eq_true, Option.toList_some, Option.toList_none, List.cons_append, List.nil_append, i]; rfl
    · simp (disch := omega) only [hg.1, hg.2, fl_KF, fl_RF, o27, o28, fl_lit, fl_nadd, fl_nmul, fl_ndiv, fl_nsub, fl_msub, fl_nle, fl_nlt, fl_neq, fl_nclamp, fl_nin, fl_ltT, fl_ltF, fl_leT, fl_leF, fl_eqT, fl_eqF, decide_true, decide_false, Bool.true_and, Bool.and_true, Bool.false_and, Bool.and_false, if_true, if_false, Bool.false_eq_true, Option.isSome_some, Option.getD_some, not_true_eq_false, not_false_eq_true, Option.toList_some, Option.toList_none, List.cons_append, List.nil_append, i]; rfl
    · simp (disch := omega) only [hg.1, hg.2, fl_KF, fl_RF, o27, o28, fl_lit, fl_nadd, fl_nmul, fl_ndiv, fl_nsub, fl_msub, fl_nle, fl_nlt, fl_neq, fl_nclamp, fl_nin, fl_ltT, fl_ltF, fl_leT, fl_leF, fl_eqT, fl_eqF, decide_true, decide_false, Bool.true_and, Bool.and_true, Bool.false_and, Bool.and_false, if_true, if_false, Bool.false_eq_true, Option.isSome_some, Option.getD_some, not_true_eq_false, not_false_eq_true, Option.toList_some, Option.toList_none, List.cons_append, List.nil_append, i]; rfl
    · simp (disch := omega) only [hg.1, hg.2, fl_KF, fl_RF, o27, o28, fl_lit, fl_nadd, fl_nmul, fl_ndiv, fl_nsub, fl_msub, fl_nle, fl_nlt, fl_neq, fl_nclamp, fl_nin, fl_ltT, fl_ltF, fl_leT, fl_leF, fl_eqT, fl_eqF, decide_true, decide_false, Bool.true_and, Bool.and_true, Bool.false_and, Bool.and_false, if_true, if_false, Bool.false_eq_true, Option.isSome_some, Option.getD_some, not_true_eq_false, not_false_eq_true, Option.toList_some, Option.toList_none, List.cons_append, List.nil_append, e66, fbP_257_133]; rfl
    · simp (disch := omega) only [hg.1, hg.2, fl_KF, fl_RF, o27, o28, fl_lit, fl_nadd, fl_nmul, fl_ndiv, fl_nsub, fl_msub, fl_nle, fl_nlt, fl_neq, fl_nclamp, fl_nin, fl_ltT, fl_ltF, fl_leT, fl_leF, fl_eqT, fl_eqF, decide_true, decide_false, Bool.true_and, Bool.and_true, Bool.false_and, Bool.and_false, if_true, if_false, Bool.false_eq_true, Option.isSome_some, Option.getD_some, not_true_eq_false, not_false_eq_true, Option.toList_some, Option.toList_none, List.cons_append, List.nil_append, i3]; rfl
    · simp (disch := omega) only [hg.1, hg.2, fl_KF, fl_RF, o27, o28, fl_lit, fl_nadd, fl_nmul, fl_ndiv, fl_nsub, fl_msub, fl_nle, fl_nlt, fl_neq, fl_nclamp, fl_nin, fl_ltT, fl_ltF, fl_leT, fl_leF, fl_eqT, fl_eqF, decide_true, decide_false, Bool.true_and, Bool.and_true, Bool.false_and, Bool.and_false, if_true, if_false, Bool.false_eq_true, Option.isSome_some, Option.getD_some, not_true_eq_false, not_false_eq_true, Option.toList_some, Option.toList_none, List.cons_append, List.nil_append, l5, b5, fbP_257_152]; rfl
    · have f8 : fl_cnv g s tn rn 8 = Int32.ofNat (g 77) := rfl
      rw [f8]
      rcases (show g 77 = 0 ∨ g 77 = 1 by omega) with z | z <;> rw [z] at i4 ⊢ <;> simp (disch := omega) only [hg.1, hg.2, fl_KF, fl_RF, o27, o28, fl_lit, fl_nadd, fl_nmul, fl_ndiv, fl_nsub, fl_msub, fl_nle, fl_nlt, fl_neq, fl_nclamp, fl_nin, fl_ltT, fl_ltF, fl_leT, fl_leF, fl_eqT, fl_eqF, decide_true, decide_false, Bool.true_and, Bool.and_true, Bool.false_and, Bool.and_false, if_true, if_false, Bool.false_eq_true, Option.isSome_some, Option.getD_some, not_true_eq_false, not_false_eq_true, Option.toList_some, Option.toList_none, List.cons_append, List.nil_append, i4, fbC_257_168]
    · simp (disch := omega) only [hg.1, hg.2, fl_KF, fl_RF, o27, o28, fl_lit, fl_nadd, fl_nmul, fl_ndiv, fl_nsub, fl_msub, fl_nle, fl_nlt, fl_neq, fl_nclamp, fl_nin, fl_ltT, fl_ltF, fl_leT, fl_leF, fl_eqT, fl_eqF, decide_true, decide_false, Bool.true_and, Bool.and_true, Bool.false_and, Bool.and_false, if_true, if_false, Bool.false_eq_true, Option.isSome_some, Option.getD_some, not_true_eq_false, not_false_eq_true, Option.toList_some, Option.toList_none, List.cons_append, List.nil_append, l7, b7, fbP_257_179]; rfl
    · have f10 : fl_cnv g s tn rn 10 = Int32.ofNat (if g 76 = 0 then 0 else fl_lsm g (g 0)) := rfl
      rw [f10]
      by_cases z : g 76 = 0
      · rw [if_pos z]
        rw [z] at i3
        simp (disch := omega) only [hg.1, hg.2, fl_KF, fl_RF, o27, o28, o41, fl_lit, fl_nadd, fl_nmul, fl_ndiv, fl_nsub, fl_msub, fl_nle, fl_nlt, fl_neq, fl_nclamp, fl_nin, fl_ltT, fl_ltF, fl_leT, fl_leF, fl_eqT, fl_eqF, decide_true, decide_false, Bool.true_and, Bool.and_true, Bool.false_and, Bool.and_false, if_true, if_false, Bool.false_eq_true, Option.isSome_some, Option.getD_some, not_true_eq_false, not_false_eq_true, Option.toList_some, Option.toList_none, List.cons_append, List.nil_append, i3, fbC_257_211]
      · rw [if_neg z]
        have e := e256 (by omega)
        simp (disch := omega) only [hg.1, hg.2, fl_KF, fl_RF, o27, o28, o41, fl_lit, fl_nadd, fl_nmul, fl_ndiv, fl_nsub, fl_msub, fl_nle, fl_nlt, fl_neq, fl_nclamp, fl_nin, fl_ltT, fl_ltF, fl_leT, fl_leF, fl_eqT, fl_eqF, decide_true, decide_false, Bool.true_and, Bool.and_true, Bool.false_and, Bool.and_false, if_true, if_false, Bool.false_eq_true, Option.isSome_some, Option.getD_some, not_true_eq_false, not_false_eq_true, Option.toList_some, Option.toList_none, List.cons_append, List.nil_append, i3, e, fbP_257_211, fbC_257_211]
    · simp (disch := omega) only [hg.1, hg.2, fl_KF, fl_RF, o4, fl_lit, fl_nadd, fl_nmul, fl_ndiv, fl_nsub, fl_msub, fl_nle, fl_nlt, fl_neq, fl_nclamp, fl_nin, fl_ltT, fl_ltF, fl_leT, fl_leF, fl_eqT, fl_eqF, decide_true, decide_false, Bool.true_and, Bool.and_true, Bool.false_and, Bool.and_false, if_true, if_false, Bool.false_eq_true, Option.isSome_some, Option.getD_some, not_true_eq_false, not_false_eq_true, Option.toList_some, Option.toList_none, List.cons_append, List.nil_append, fbE_31, e4, fbP_257_219]; rfl
    · simp (disch := omega) only [hg.1, hg.2, fl_KF, fl_RF, o1, fl_lit, fl_nadd, fl_nmul, fl_ndiv, fl_nsub, fl_msub, fl_nle, fl_nlt, fl_neq, fl_nclamp, fl_nin, fl_ltT, fl_ltF, fl_leT, fl_leF, fl_eqT, fl_eqF, decide_true, decide_false, Bool.true_and, Bool.and_true, Bool.false_and, Bool.and_false, if_true, if_false, Bool.false_eq_true, Option.isSome_some, Option.getD_some, not_true_eq_false, not_false_eq_true, Option.toList_some, Option.toList_none, List.cons_append, List.nil_append, fbE_31, e1, fbP_257_227]; rfl
  · rw [if_neg c0]
    have y := fun i (hi : i < 13) => fl_nin_ne c0 hi (show i < 2147483648 by omega)
    have y0 := y 0 (by omega)
    have y1 := y 1 (by omega)
    have y2 := y 2 (by omega)
    have y3 := y 3 (by omega)
    have y4 := y 4 (by omega)
    have y5 := y 5 (by omega)
    have y6 := y 6 (by omega)
    have y7 := y 7 (by omega)
    have y8 := y 8 (by omega)
    have y9 := y 9 (by omega)
    have y10 := y 10 (by omega)
    have y11 := y 11 (by omega)
    have y12 := y 12 (by omega)
    rw [fbE_257]
    simp only [fl_lit, fl_nadd, fl_nmul, fl_ndiv, fl_nsub, fl_msub, fl_nle, fl_nlt, fl_neq, fl_nclamp, fl_nin, fl_ltT, fl_ltF, fl_leT, fl_leF, fl_eqT, fl_eqF, decide_true, decide_false, Bool.true_and, Bool.and_true, Bool.false_and, Bool.and_false, if_true, if_false, Bool.false_eq_true, Option.isSome_some, Option.getD_some, not_true_eq_false, not_false_eq_true, Option.toList_some, Option.toList_none, List.cons_append, List.nil_append, y0, y1, y2, y3, y4, y5, y6, y7, y8, y9, y10, y11, y12]
end
