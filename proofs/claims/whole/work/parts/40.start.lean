/-! A RUN of the class begins -/
def fl_hy (g : Nat → Nat) (A old : Nat → Int64) (k : Nat) : Nat → Int64 := fun j => if g 1 ≤ j ∧ j < k then A j else old j
theorem fl_hy_0 {g : Nat → Nat} {A old : Nat → Int64} : fl_hy g A old (g 1) = old := by
  funext j
  exact if_neg (by omega)
theorem fl_hy_up {g : Nat → Nat} {A old : Nat → Int64} {k : Nat} {x : Int64} (hk : g 1 ≤ k) (hx : x = A k) : fl_up (fl_hy g A old k) k x = fl_hy g A old (k + 1) := by
  funext j
  by_cases e : j = k
  · subst e
    rw [fl_up_self, hx]
    exact (if_pos (by omega)).symm
  · rw [fl_up_ne e]
    unfold fl_hy
    by_cases l : g 1 ≤ j ∧ j < k
    · rw [if_pos l, if_pos (by omega)]
    · rw [if_neg l, if_neg (by omega)]
theorem fl_hy_in {g : Nat → Nat} {A old : Nat → Int64} {k j : Nat} (h : g 1 ≤ j ∧ j < k) : fl_hy g A old k j = A j := if_pos h
/-- what registers hold at first -/
def fl_sv (g : Nat → Nat) (z : Nat) : Nat → Int64 := fun j => fl_B (fun _ => decide (g (40 + j) = z))
def fl_sb (h : fl_H) (o : Nat) (g : Nat → Nat) : fl_H := fl_ww h (o + 6) (o + 8) (fl_hy g (fl_sv g 1) (fl_l h (o + 6)) (g 0)) (fl_hy g (fl_sv g 0) (fl_l h (o + 8)) (g 0))
theorem fl_k_sb {h : fl_H} {o : Nat} {g : Nat → Nat} : fl_k (fl_sb h o g) = fl_k h := by unfold fl_sb; rw [fl_k_ww]
theorem fl_r_sb {h : fl_H} {o : Nat} {g : Nat → Nat} : fl_r (fl_sb h o g) = fl_r h := by unfold fl_sb; rw [fl_r_ww]
theorem fl_i_sb {h : fl_H} {o : Nat} {g : Nat → Nat} : fl_i (fl_sb h o g) = fl_i h := by unfold fl_sb; rw [fl_i_ww]
theorem fl_1_sb {h : fl_H} {o : Nat} {g : Nat → Nat} : (fl_sb h o g).1 = h.1 := by unfold fl_sb; rw [fl_1_ww]
theorem fl_sb_lo {h : fl_H} {o : Nat} {g : Nat → Nat} {q : Nat} (h6 : q ≠ o + 6) (h8 : q ≠ o + 8) : fl_l (fl_sb h o g) q = fl_l h q := by unfold fl_sb; rw [fl_ww_lo h6 h8]
section
variable {k0 : Nat → Nat × Nat} {h : fl_H} {g : Nat → Nat} {n o b r : Nat} {s : Int64}
theorem fc_26 (hg : fl_g k0 h) (nn : fl_isN k0 n) (ss : fl_isS k0 o) (w : fl_wf g) (d : fl_net h n g) (sep : n + 12 < o ∨ o + 8 < n) : fl_cl fl_C 26 [.ref o, .ref n] h = some (some none, fl_sb h o g) := by
  have w1 := w.1
  have g12 : g 0 ≤ 12 := by omega
  have lp := fl_iter (fun i => fl_Rn fl_C 26 5 [some (.ref o), some (.ref n), some (.int (Int32.ofNat (g 1 + i)))] [] (fl_ww h (o + 6) (o + 8) (fl_hy g (fl_sv g 1) (fl_l h (o + 6)) (g 1 + i)) (fl_hy g (fl_sv g 0) (fl_l h (o + 8)) (g 1 + i)))) (g 0 - g 1) (by
    intro i hi
    try dsimp only
    have hk : g 1 + i < g 0 := by omega
    have hk1 : g 1 ≤ g 1 + i := by omega
    have sc : g 1 + (i + 1) = g 1 + i + 1 := by omega
    rw [sc]
    generalize g 1 + i = k at hk hk1 ⊢
    have k12 : k < 12 := by omega
    have hgw : ∀ A B, fl_g k0 (fl_ww h (o + 6) (o + 8) A B) := fun A B => ⟨by rw [fl_k_ww]; exact hg.1, by rw [fl_r_ww]; exact hg.2⟩
    have es : ∀ A B, fl_cl fl_C 24 [.ref (n + 7), .int (Int32.ofNat k)] (fl_ww h (o + 6) (o + 8) A B) = some (some (some (.int (if g (4 + k) = 8 then Int32.ofNat (g (40 + k)) else -Int32.ofNat 1))), fl_ww h (o + 6) (o + 8) A B) := fun A B => by
      rw [fc_int nn.2.2.2.2.1 (hgw A B) k12, fl_ww_lo (by omega) (by omega), d.2.2.2.2.1 k hk]
      split
      · rw [fl_o32]
      · rfl
    have p1 : ∀ A B v, fl_cl fl_C 20 [.ref (o + 5), .int (Int32.ofNat k), .long v] (fl_ww h (o + 6) (o + 8) A B) = some (some none, fl_ww h (o + 6) (o + 8) (fl_up A k v) B) := fun A B v => by
      rw [fc_put ss.2.2.2.1 (hgw A B) k12, fl_ww_la (by omega), fl_ww_a (by omega)]
    have p0 : ∀ A B v, fl_cl fl_C 20 [.ref (o + 7), .int (Int32.ofNat k), .long v] (fl_ww h (o + 6) (o + 8) A B) = some (some none, fl_ww h (o + 6) (o + 8) A (fl_up B k v)) := fun A B v => by
      rw [fc_put ss.2.2.2.2 (hgw A B) k12, fl_ww_lb, fl_ww_b]
    have d1 := d.1
    have wk := w.2.2.1 k hk1 hk
    have n1 : (-Int32.ofNat 1 = Int32.ofNat 1) = False := eq_false (by decide)
    have n0 : (-Int32.ofNat 1 = Int32.ofNat 0) = False := eq_false (by decide)
    have v2 : g (40 + k) ≤ 2 := wk.2.2.2.2.2.1
    have v8 : g (4 + k) ≠ 8 → g (40 + k) = 2 := wk.2.2.2.2.2.2.1
    have y1 : ∀ x, x = fl_sv g 1 k → fl_up (fl_hy g (fl_sv g 1) (fl_l h (o + 6)) k) k x = fl_hy g (fl_sv g 1) (fl_l h (o + 6)) (k + 1) := fun x hx => fl_hy_up hk1 hx
    have y0 : ∀ x, x = fl_sv g 0 k → fl_up (fl_hy g (fl_sv g 0) (fl_l h (o + 8)) k) k x = fl_hy g (fl_sv g 0) (fl_l h (o + 8)) (k + 1) := fun x hx => fl_hy_up hk1 hx
    have f0 : ∀ z, g (40 + k) ≠ z → (0 : Int64) = fl_sv g z k := fun z hz => by
      unfold fl_sv; rw [decide_eq_false hz]; exact fl_B_0
    have f1 : ∀ z, g (40 + k) = z → (-1 : Int64) = fl_sv g z k := fun z hz => by
      unfold fl_sv; rw [decide_eq_true hz]; exact fl_B_m1
    clear w w1 d hgw wk
    rw [fbC_26_5]
    rcases (show g (40 + k) = 1 ∨ g (40 + k) = 0 ∨ g (40 + k) = 2 by omega) with e | e | e
    · have a1 := y1 _ (f1 1 e)
      have a0 := y0 _ (f0 0 (by omega))
      have c8 : g (4 + k) = 8 := by
        by_cases c : g (4 + k) = 8
        · exact c
        · have := v8 c; omega
      clear y1 y0 f1 f0 v8
      simp (disch := omega) only [fl_k_ww, fl_r_ww, fl_i_ww, hg.1, hg.2, nn.1, nn.2.2.2.2.1, ss.1, ss.2.2.2.1, ss.2.2.2.2, d1, fl_lit, fl_nadd, fl_nmul, fl_ndiv, fl_nsub, fl_msub, fl_nle, fl_nlt, fl_neq, fl_nclamp, fl_nin, fl_ltT, fl_ltF, fl_leT, fl_leF, fl_eqT, fl_eqF, decide_true, decide_false, Bool.true_and, Bool.and_true, Bool.false_and, Bool.and_false, if_true, if_false, Bool.false_eq_true, Option.isSome_some, Option.getD_some, not_true_eq_false, not_false_eq_true, Option.toList_some, Option.toList_none, List.cons_append, List.nil_append, es, c8, e, fbP_26_23, fbE_25, p1, fbP_25_20, p0, fbP_25_39, a1, a0, fbP_26_26]
    · have a1 := y1 _ (f0 1 (by omega))
      have a0 := y0 _ (f1 0 e)
      have c8 : g (4 + k) = 8 := by
        by_cases c : g (4 + k) = 8
        · exact c
        · have := v8 c; omega
      clear y1 y0 f1 f0 v8
      simp (disch := omega) only [fl_k_ww, fl_r_ww, fl_i_ww, hg.1, hg.2, nn.1, nn.2.2.2.2.1, ss.1, ss.2.2.2.1, ss.2.2.2.2, d1, fl_lit, fl_nadd, fl_nmul, fl_ndiv, fl_nsub, fl_msub, fl_nle, fl_nlt, fl_neq, fl_nclamp, fl_nin, fl_ltT, fl_ltF, fl_leT, fl_leF, fl_eqT, fl_eqF, decide_true, decide_false, Bool.true_and, Bool.and_true, Bool.false_and, Bool.and_false, if_true, if_false, Bool.false_eq_true, Option.isSome_some, Option.getD_some, not_true_eq_false, not_false_eq_true, Option.toList_some, Option.toList_none, List.cons_append, List.nil_append, es, c8, e, fbP_26_23, fbE_25, p1, fbP_25_20, p0, fbP_25_39, a1, a0, fbP_26_26]
    · have a1 := y1 _ (f0 1 (by omega))
      have a0 := y0 _ (f0 0 (by omega))
      clear y1 y0 f1 f0 v8
      by_cases c8 : g (4 + k) = 8
      · simp (disch := omega) only [fl_k_ww, fl_r_ww, fl_i_ww, hg.1, hg.2, nn.1, nn.2.2.2.2.1, ss.1, ss.2.2.2.1, ss.2.2.2.2, d1, fl_lit, fl_nadd, fl_nmul, fl_ndiv, fl_nsub, fl_msub, fl_nle, fl_nlt, fl_neq, fl_nclamp, fl_nin, fl_ltT, fl_ltF, fl_leT, fl_leF, fl_eqT, fl_eqF, decide_true, decide_false, Bool.true_and, Bool.and_true, Bool.false_and, Bool.and_false, if_true, if_false, Bool.false_eq_true, Option.isSome_some, Option.getD_some, not_true_eq_false, not_false_eq_true, Option.toList_some, Option.toList_none, List.cons_append, List.nil_append, es, c8, e, fbP_26_23, fbE_25, p1, fbP_25_20, p0, fbP_25_39, a1, a0, fbP_26_26]
      · simp (disch := omega) only [fl_k_ww, fl_r_ww, fl_i_ww, hg.1, hg.2, nn.1, nn.2.2.2.2.1, ss.1, ss.2.2.2.1, ss.2.2.2.2, d1, fl_lit, fl_nadd, fl_nmul, fl_ndiv, fl_nsub, fl_msub, fl_nle, fl_nlt, fl_neq, fl_nclamp, fl_nin, fl_ltT, fl_ltF, fl_leT, fl_leF, fl_eqT, fl_eqF, decide_true, decide_false, Bool.true_and, Bool.and_true, Bool.false_and, Bool.and_false, if_true, if_false, Bool.false_eq_true, Option.isSome_some, Option.getD_some, not_true_eq_false, not_false_eq_true, Option.toList_some, Option.toList_none, List.cons_append, List.nil_append, es, eq_false c8, n1, n0, fbP_26_23, fbE_25, p1, fbP_25_20, p0, fbP_25_39, a1, a0, fbP_26_26])
  have e1 : h = fl_ww h (o + 6) (o + 8) (fl_hy g (fl_sv g 1) (fl_l h (o + 6)) (g 1)) (fl_hy g (fl_sv g 0) (fl_l h (o + 8)) (g 1)) := (fl_ww_self fl_hy_0 fl_hy_0 (by omega)).symm
  have lp3 := (congrArg (fun z => fl_Rn fl_C 26 5 [some (.ref o), some (.ref n), some (.int (Int32.ofNat (g 1)))] [] z) e1).trans lp
  try dsimp only at lp3
  rw [show g 1 + (g 0 - g 1) = g 0 by omega] at lp3
  have d1 := d.1
  clear w w1 d lp e1
  rw [fbE_26]
  simp only [hg.1, nn.1, d1, fl_lit, fl_nadd, fl_nmul, fl_ndiv, fl_nsub, fl_msub, fl_nle, fl_nlt, fl_neq, fl_nclamp, fl_nin, fl_ltT, fl_ltF, fl_leT, fl_leF, fl_eqT, fl_eqF, decide_true, decide_false, Bool.true_and, Bool.and_true, Bool.false_and, Bool.and_false, if_true, if_false, Bool.false_eq_true, Option.isSome_some, Option.getD_some, not_true_eq_false, not_false_eq_true, Option.toList_some, Option.toList_none, List.cons_append, List.nil_append]
  rw [lp3, fbC_26_5]
  unfold fl_sb
  simp (disch := omega) only [fl_k_ww, fl_r_ww, fl_i_ww, hg.1, hg.2, nn.1, d1, fl_lit, fl_nadd, fl_nmul, fl_ndiv, fl_nsub, fl_msub, fl_nle, fl_nlt, fl_neq, fl_nclamp, fl_nin, fl_ltT, fl_ltF, fl_leT, fl_leF, fl_eqT, fl_eqF, decide_true, decide_false, Bool.true_and, Bool.and_true, Bool.false_and, Bool.and_false, if_true, if_false, Bool.false_eq_true, Option.isSome_some, Option.getD_some, not_true_eq_false, not_false_eq_true, Option.toList_some, Option.toList_none, List.cons_append, List.nil_append]
theorem fc_27 (hg : fl_g k0 h) (nn : fl_isN k0 n) (bb : fl_isB k0 b) (w : fl_wf g) (d : fl_net h n g) (sep : n + 12 < b ∨ b + 18 < n) : fl_cl fl_C 27 [.ref b, .ref n] h = some (some none, fl_sb (fl_sb h (b + 1) g) (b + 10) g) := by
  have e1 := fc_26 hg nn bb.2.1 w d (by omega)
  have hg2 : fl_g k0 (fl_sb h (b + 1) g) := ⟨fl_k_sb.trans hg.1, fl_r_sb.trans hg.2⟩
  have e2 := fc_26 hg2 nn bb.2.2 w (fl_net_fr d (by rw [fl_i_sb]) (fun q h1 h2 => fl_sb_lo (by omega) (by omega))) (by omega)
  clear w d
  rw [fbE_27]
  simp (disch := omega) only [hg.1, hg.2, hg2.1, hg2.2, bb.1, bb.2.1.1, bb.2.2.1, fl_lit, fl_nadd, fl_nmul, fl_ndiv, fl_nsub, fl_msub, fl_nle, fl_nlt, fl_neq, fl_nclamp, fl_nin, fl_ltT, fl_ltF, fl_leT, fl_leF, fl_eqT, fl_eqF, decide_true, decide_false, Bool.true_and, Bool.and_true, Bool.false_and, Bool.and_false, if_true, if_false, Bool.false_eq_true, Option.isSome_some, Option.getD_some, not_true_eq_false, not_false_eq_true, Option.toList_some, Option.toList_none, List.cons_append, List.nil_append, e1, fbP_27_8, e2, fbP_27_16]
end
