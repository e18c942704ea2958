/-! COPIES of the class -/
def fl_cp (h : fl_H) (q r n : Nat) : fl_H := fl_wl h q (fl_al n (fl_l h r) (fl_l h q))
theorem fl_k_cp {h : fl_H} {q r n : Nat} : fl_k (fl_cp h q r n) = fl_k h := by unfold fl_cp; rw [fl_k_wl]
theorem fl_r_cp {h : fl_H} {q r n : Nat} : fl_r (fl_cp h q r n) = fl_r h := by unfold fl_cp; rw [fl_r_wl]
theorem fl_i_cp {h : fl_H} {q r n : Nat} : fl_i (fl_cp h q r n) = fl_i h := by unfold fl_cp; rw [fl_i_wl]
theorem fl_1_cp {h : fl_H} {q r n : Nat} : (fl_cp h q r n).1 = h.1 := by unfold fl_cp; rw [fl_1_wl]
theorem fl_l_cp {h : fl_H} {q r n b : Nat} (hb : b ≠ q) : fl_l (fl_cp h q r n) b = fl_l h b := by unfold fl_cp; rw [fl_l_wl, if_neg hb]
theorem fl_l_cpj {h : fl_H} {q r n j : Nat} (hj : j < n) : fl_l (fl_cp h q r n) q j = fl_l h r j := by unfold fl_cp; rw [fl_l_wl, if_pos rfl, fl_al_lt hj]
theorem fl_g_cp {k0 : Nat → Nat × Nat} {h : fl_H} {q r n : Nat} (hg : fl_g k0 h) : fl_g k0 (fl_cp h q r n) := ⟨by rw [fl_k_cp]; exact hg.1, by rw [fl_r_cp]; exact hg.2⟩
section
variable {k0 : Nat → Nat × Nat} {h h' : fl_H}
/-- a side's -/
def fl_cpS (h : fl_H) (o p : Nat) : fl_H := fl_cp (fl_cp (fl_cp (fl_cp h (o + 2) (p + 2) 12) (o + 4) (p + 4) 12) (o + 6) (p + 6) 12) (o + 8) (p + 8) 12
theorem fl_k_cpS {o p : Nat} : fl_k (fl_cpS h o p) = fl_k h := by unfold fl_cpS; rw [fl_k_cp, fl_k_cp, fl_k_cp, fl_k_cp]
theorem fl_r_cpS {o p : Nat} : fl_r (fl_cpS h o p) = fl_r h := by unfold fl_cpS; rw [fl_r_cp, fl_r_cp, fl_r_cp, fl_r_cp]
theorem fl_i_cpS {o p : Nat} : fl_i (fl_cpS h o p) = fl_i h := by unfold fl_cpS; rw [fl_i_cp, fl_i_cp, fl_i_cp, fl_i_cp]
theorem fl_1_cpS {o p : Nat} : (fl_cpS h o p).1 = h.1 := by unfold fl_cpS; rw [fl_1_cp, fl_1_cp, fl_1_cp, fl_1_cp]
theorem fl_l_cpS {o p b : Nat} (hb : b < o ∨ o + 8 < b) : fl_l (fl_cpS h o p) b = fl_l h b := by unfold fl_cpS; rw [fl_l_cp (by omega), fl_l_cp (by omega), fl_l_cp (by omega), fl_l_cp (by omega)]
theorem fl_g_cpS {o p : Nat} (hg : fl_g k0 h) : fl_g k0 (fl_cpS h o p) := ⟨by rw [fl_k_cpS]; exact hg.1, by rw [fl_r_cpS]; exact hg.2⟩
theorem fl_l_cpSj {o p : Nat} (sep : o + 8 < p ∨ p + 8 < o) {j : Nat} (hj : j < 12) : fl_l (fl_cpS h o p) (o + 2) j = fl_l h (p + 2) j ∧ fl_l (fl_cpS h o p) (o + 4) j = fl_l h (p + 4) j ∧ fl_l (fl_cpS h o p) (o + 6) j = fl_l h (p + 6) j ∧ fl_l (fl_cpS h o p) (o + 8) j = fl_l h (p + 8) j := by
  unfold fl_cpS
  refine ⟨?_, ?_, ?_, ?_⟩
  · rw [fl_l_cp (by omega), fl_l_cp (by omega), fl_l_cp (by omega), fl_l_cpj hj]
  · rw [fl_l_cp (by omega), fl_l_cp (by omega), fl_l_cpj hj, fl_l_cp (by omega)]
  · rw [fl_l_cp (by omega), fl_l_cpj hj, fl_l_cp (by omega), fl_l_cp (by omega)]
  · rw [fl_l_cpj hj, fl_l_cp (by omega), fl_l_cp (by omega), fl_l_cp (by omega)]
theorem fc_147 {o p : Nat} (hg : fl_g k0 h) (ss : fl_isS k0 o) (sp : fl_isS k0 p) (sep : o + 8 < p ∨ p + 8 < o) : fl_cl fl_C 147 [.ref o, .ref p] h = some (some none, fl_cpS h o p) := by
  have e1 : fl_cl fl_C 69 [.ref (o + 1), .ref (p + 1)] h = some (some none, fl_cp h (o + 2) (p + 2) 12) := fc_copy ss.2.1 sp.2.1 (by omega) hg
  have g1 := fl_g_cp (q := o + 2) (r := p + 2) (n := 12) hg
  have e2 := fc_copy ss.2.2.1 sp.2.2.1 (by omega) g1
  have g2 := fl_g_cp (q := o + 4) (r := p + 4) (n := 12) g1
  have e3 := fc_copy ss.2.2.2.1 sp.2.2.2.1 (by omega) g2
  have g3 := fl_g_cp (q := o + 6) (r := p + 6) (n := 12) g2
  have e4 := fc_copy ss.2.2.2.2 sp.2.2.2.2 (by omega) g3
  have g4 := fl_g_cp (q := o + 8) (r := p + 8) (n := 12) g3
  rw [show fl_wl _ (o + 4) (fl_al 12 _ _) = fl_cp (fl_cp h (o + 2) (p + 2) 12) (o + 4) (p + 4) 12 from rfl] at e2
  rw [show fl_wl _ (o + 6) (fl_al 12 _ _) = fl_cp (fl_cp (fl_cp h (o + 2) (p + 2) 12) (o + 4) (p + 4) 12) (o + 6) (p + 6) 12 from rfl] at e3
  rw [show fl_wl _ (o + 8) (fl_al 12 _ _) = fl_cpS h o p from rfl] at e4
  rw [show fl_cp _ (o + 8) (p + 8) 12 = fl_cpS h o p from rfl] at g4
  have a1 := ss.1
  have b1 := sp.1
  have c1 := ss.2.1.1
  have c2 := ss.2.2.1.1
  have c3 := ss.2.2.2.1.1
  have c4 := ss.2.2.2.2.1
  clear ss sp
  generalize fl_cpS h o p = H4 at *
  generalize fl_cp (fl_cp (fl_cp h (o + 2) (p + 2) 12) (o + 4) (p + 4) 12) (o + 6) (p + 6) 12 = H3 at *
  generalize fl_cp (fl_cp h (o + 2) (p + 2) 12) (o + 4) (p + 4) 12 = H2 at *
  generalize fl_cp h (o + 2) (p + 2) 12 = H1 at *
  rw [fbE_147]
  simp only [hg.1, hg.2, g1.1, g1.2, g2.1, g2.2, g3.1, g3.2, g4.1, a1, b1, c1, c2, c3, c4, fl_lit, fl_nadd, fl_nmul, fl_ndiv, fl_nsub, fl_msub, fl_nle, fl_nlt, fl_neq, fl_nclamp, fl_nin, fl_ltT, fl_ltF, fl_leT, fl_leF, fl_eqT, fl_eqF, decide_true, decide_false, Bool.true_and, Bool.and_true, Bool.false_and, Bool.and_false, if_true, if_false, Bool.false_eq_true, Option.isSome_some, Option.getD_some, not_true_eq_false, not_false_eq_true, Option.toList_some, Option.toList_none, List.cons_append, List.nil_append, e1, e2, e3, e4, fbP_147_11, fbP_147_22, fbP_147_33, fbP_147_44]
/-- a bench's -/
def fl_cpB (h : fl_H) (b d : Nat) : fl_H := fl_cpS (fl_cpS h (b + 1) (d + 1)) (b + 10) (d + 10)
theorem fc_148 {b d : Nat} (hg : fl_g k0 h) (bb : fl_isB k0 b) (bd : fl_isB k0 d) (sep : b + 18 < d ∨ d + 18 < b) : fl_cl fl_C 148 [.ref b, .ref d] h = some (some none, fl_cpB h b d) := by
  have e1 := fc_147 hg bb.2.1 bd.2.1 (by omega)
  have g1 := fl_g_cpS (o := b + 1) (p := d + 1) hg
  have e2 : _ = some (some none, fl_cpB h b d) := fc_147 g1 bb.2.2 bd.2.2 (by omega)
  have a1 := bb.1
  have b1 := bd.1
  have c1 := bb.2.1.1.1
  have c2 := bb.2.2.1.1
  clear bb bd
  generalize fl_cpB h b d = H2 at *
  generalize fl_cpS h (b + 1) (d + 1) = H1 at *
  rw [fbE_148]
  simp only [hg.1, hg.2, g1.1, g1.2, a1, b1, c1, c2, fl_lit, fl_nadd, fl_nmul, fl_ndiv, fl_nsub, fl_msub, fl_nle, fl_nlt, fl_neq, fl_nclamp, fl_nin, fl_ltT, fl_ltF, fl_leT, fl_leF, fl_eqT, fl_eqF, decide_true, decide_false, Bool.true_and, Bool.and_true, Bool.false_and, Bool.and_false, if_true, if_false, Bool.false_eq_true, Option.isSome_some, Option.getD_some, not_true_eq_false, not_false_eq_true, Option.toList_some, Option.toList_none, List.cons_append, List.nil_append, e1, e2, fbP_148_11, fbP_148_22]
/-- a net's -/
def fl_cpn (h : fl_H) (n m : Nat) : fl_H := fl_wi h n (fl_al 5 (fl_i h m) (fl_i h n))
def fl_cpN (h : fl_H) (n m : Nat) : fl_H := fl_cp (fl_cp (fl_cp (fl_cp (fl_cp (fl_cp (fl_cpn h n m) (n + 2) (m + 2) 12) (n + 4) (m + 4) 12) (n + 6) (m + 6) 12) (n + 8) (m + 8) 12) (n + 10) (m + 10) 20) (n + 12) (m + 12) 4
theorem fl_k_cpN {n m : Nat} : fl_k (fl_cpN h n m) = fl_k h := by unfold fl_cpN fl_cpn; rw [fl_k_cp, fl_k_cp, fl_k_cp, fl_k_cp, fl_k_cp, fl_k_cp, fl_k_wi]
theorem fl_r_cpN {n m : Nat} : fl_r (fl_cpN h n m) = fl_r h := by unfold fl_cpN fl_cpn; rw [fl_r_cp, fl_r_cp, fl_r_cp, fl_r_cp, fl_r_cp, fl_r_cp, fl_r_wi]
theorem fl_1_cpN {n m : Nat} : (fl_cpN h n m).1 = h.1 := by unfold fl_cpN fl_cpn; rw [fl_1_cp, fl_1_cp, fl_1_cp, fl_1_cp, fl_1_cp, fl_1_cp, fl_1_wi]
theorem fl_i_cpN {n m b : Nat} (hb : b ≠ n) : fl_i (fl_cpN h n m) b = fl_i h b := by unfold fl_cpN fl_cpn; rw [fl_i_cp, fl_i_cp, fl_i_cp, fl_i_cp, fl_i_cp, fl_i_cp, fl_i_wi, if_neg hb]
theorem fl_i_cpNj {n m j : Nat} (hj : j < 5) : fl_i (fl_cpN h n m) n j = fl_i h m j := by unfold fl_cpN fl_cpn; rw [fl_i_cp, fl_i_cp, fl_i_cp, fl_i_cp, fl_i_cp, fl_i_cp, fl_i_wi, if_pos rfl, fl_al_lt hj]
theorem fl_l_cpn {n m : Nat} : fl_l (fl_cpn h n m) = fl_l h := by unfold fl_cpn; rw [fl_l_wi]
theorem fl_l_cpN {n m b : Nat} (hb : b < n ∨ n + 12 < b) : fl_l (fl_cpN h n m) b = fl_l h b := by unfold fl_cpN; rw [fl_l_cp (by omega), fl_l_cp (by omega), fl_l_cp (by omega), fl_l_cp (by omega), fl_l_cp (by omega), fl_l_cp (by omega), fl_l_cpn]
theorem fl_cpN_net {n m : Nat} {g : Nat → Nat} (w : fl_wf g) (d : fl_net h m g) (sep : n + 12 < m ∨ m + 12 < n) : fl_net (fl_cpN h n m) n g := by
  have w1 := w.1
  refine ⟨?_, ?_, ?_, ?_, ?_, ?_, ?_⟩
  · rw [fl_i_cpNj (by omega), fl_i_cpNj (by omega), fl_i_cpNj (by omega), fl_i_cpNj (by omega), fl_i_cpNj (by omega)]; exact d.1
  · intro k hk; rw [← d.2.1 k hk]; unfold fl_cpN
    rw [fl_l_cp (by omega), fl_l_cp (by omega), fl_l_cp (by omega), fl_l_cp (by omega), fl_l_cp (by omega), fl_l_cpj (by omega), fl_l_cpn]
  · intro k hk; rw [← d.2.2.1 k hk]; unfold fl_cpN
    rw [fl_l_cp (by omega), fl_l_cp (by omega), fl_l_cp (by omega), fl_l_cp (by omega), fl_l_cpj (by omega), fl_l_cp (by omega), fl_l_cpn]
  · intro k hk; rw [← d.2.2.2.1 k hk]; unfold fl_cpN
    rw [fl_l_cp (by omega), fl_l_cp (by omega), fl_l_cp (by omega), fl_l_cpj (by omega), fl_l_cp (by omega), fl_l_cp (by omega), fl_l_cpn]
  · intro k hk; rw [← d.2.2.2.2.1 k hk]; unfold fl_cpN
    rw [fl_l_cp (by omega), fl_l_cp (by omega), fl_l_cpj (by omega), fl_l_cp (by omega), fl_l_cp (by omega), fl_l_cp (by omega), fl_l_cpn]
  · intro k hk; rw [← d.2.2.2.2.2.1 k hk]; unfold fl_cpN
    rw [fl_l_cp (by omega), fl_l_cpj (by omega), fl_l_cp (by omega), fl_l_cp (by omega), fl_l_cp (by omega), fl_l_cp (by omega), fl_l_cpn]
  · intro k hk; rw [← d.2.2.2.2.2.2 k hk]; unfold fl_cpN
    rw [fl_l_cpj (by omega), fl_l_cp (by omega), fl_l_cp (by omega), fl_l_cp (by omega), fl_l_cp (by omega), fl_l_cp (by omega), fl_l_cpn]
theorem fl_al5 {α : Type} {f old : Nat → α} : fl_up (fl_up (fl_up (fl_up (fl_up old 0 (f 0)) 1 (f 1)) 2 (f 2)) 3 (f 3)) 4 (f 4) = fl_al 5 f old := by
  rw [show fl_up old 0 (f 0) = fl_al 1 f old from by rw [← fl_al_succ (k := 0) (f := f) (old := old) rfl, fl_al_0], fl_al_succ rfl, fl_al_succ rfl, fl_al_succ rfl, fl_al_succ rfl]
theorem fc_70 {n m : Nat} (hg : fl_g k0 h) (nn : fl_isN k0 n) (nm : fl_isN k0 m) (sep : n + 12 < m ∨ m + 12 < n) : fl_cl fl_C 70 [.ref n, .ref m] h = some (some none, fl_cpN h n m) := by
  have g0 : fl_g k0 (fl_cpn h n m) := ⟨by unfold fl_cpn; rw [fl_k_wi]; exact hg.1, by unfold fl_cpn; rw [fl_r_wi]; exact hg.2⟩
  have e1 : fl_cl fl_C 69 [.ref (n + 1), .ref (m + 1)] (fl_cpn h n m) = some (some none, fl_cp (fl_cpn h n m) (n + 2) (m + 2) 12) := fc_copy nn.2.1 nm.2.1 (by omega) g0
  have g1 := fl_g_cp (q := n + 2) (r := m + 2) (n := 12) g0
  have e2 : fl_cl fl_C 69 [.ref (n + 3), .ref (m + 3)] _ = some (some none, fl_cp (fl_cp (fl_cpn h n m) (n + 2) (m + 2) 12) (n + 4) (m + 4) 12) := fc_copy nn.2.2.1 nm.2.2.1 (by omega) g1
  have g2 := fl_g_cp (q := n + 4) (r := m + 4) (n := 12) g1
  have e3 : fl_cl fl_C 69 [.ref (n + 5), .ref (m + 5)] _ = some (some none, fl_cp (fl_cp (fl_cp (fl_cpn h n m) (n + 2) (m + 2) 12) (n + 4) (m + 4) 12) (n + 6) (m + 6) 12) := fc_copy nn.2.2.2.1 nm.2.2.2.1 (by omega) g2
  have g3 := fl_g_cp (q := n + 6) (r := m + 6) (n := 12) g2
  have e4 : fl_cl fl_C 69 [.ref (n + 7), .ref (m + 7)] _ = some (some none, fl_cp (fl_cp (fl_cp (fl_cp (fl_cpn h n m) (n + 2) (m + 2) 12) (n + 4) (m + 4) 12) (n + 6) (m + 6) 12) (n + 8) (m + 8) 12) := fc_copy nn.2.2.2.2.1 nm.2.2.2.2.1 (by omega) g3
  have g4 := fl_g_cp (q := n + 8) (r := m + 8) (n := 12) g3
  have e5 : fl_cl fl_C 69 [.ref (n + 9), .ref (m + 9)] _ = some (some none, fl_cp (fl_cp (fl_cp (fl_cp (fl_cp (fl_cpn h n m) (n + 2) (m + 2) 12) (n + 4) (m + 4) 12) (n + 6) (m + 6) 12) (n + 8) (m + 8) 12) (n + 10) (m + 10) 20) := fc_copy nn.2.2.2.2.2.1 nm.2.2.2.2.2.1 (by omega) g4
  have g5 := fl_g_cp (q := n + 10) (r := m + 10) (n := 20) g4
  have e6 : fl_cl fl_C 69 [.ref (n + 11), .ref (m + 11)] _ = some (some none, fl_cpN h n m) := fc_copy nn.2.2.2.2.2.2 nm.2.2.2.2.2.2 (by omega) g5
  have a1 := nn.1
  have b1 := nm.1
  have c1 := nn.2.1.1
  have c2 := nn.2.2.1.1
  have c3 := nn.2.2.2.1.1
  have c4 := nn.2.2.2.2.1.1
  have c5 := nn.2.2.2.2.2.1.1
  have c6 := nn.2.2.2.2.2.2.1
  have mn : (m = n) = False := eq_false (by omega)
  have e0 : fl_wi h n (fl_up (fl_up (fl_up (fl_up (fl_up (fl_i h n) 0 (fl_i h m 0)) 1 (fl_i h m 1)) 2 (fl_i h m 2)) 3 (fl_i h m 3)) 4 (fl_i h m 4)) = fl_cpn h n m := by
    unfold fl_cpn; rw [fl_al5]
  clear nn nm
  generalize fl_cpN h n m = H6 at *
  generalize fl_cp (fl_cp (fl_cp (fl_cp (fl_cp (fl_cpn h n m) (n + 2) (m + 2) 12) (n + 4) (m + 4) 12) (n + 6) (m + 6) 12) (n + 8) (m + 8) 12) (n + 10) (m + 10) 20 = H5 at *
  generalize fl_cp (fl_cp (fl_cp (fl_cp (fl_cpn h n m) (n + 2) (m + 2) 12) (n + 4) (m + 4) 12) (n + 6) (m + 6) 12) (n + 8) (m + 8) 12 = H4 at *
  generalize fl_cp (fl_cp (fl_cp (fl_cpn h n m) (n + 2) (m + 2) 12) (n + 4) (m + 4) 12) (n + 6) (m + 6) 12 = H3 at *
  generalize fl_cp (fl_cp (fl_cpn h n m) (n + 2) (m + 2) 12) (n + 4) (m + 4) 12 = H2 at *
  generalize fl_cp (fl_cpn h n m) (n + 2) (m + 2) 12 = H1 at *
  generalize fl_cpn h n m = H0 at *
  rw [fbE_70]
  simp only [hg.1, hg.2, a1, b1, decide_true, if_true, fbC_70_8, fbC_70_16, fbC_70_24, fbC_70_32, fl_si_wi, fl_k_wi, fl_r_wi, fl_i_wi, mn, if_false, fl_wi_wi, e0]
  rw [fbC_70_40]
  simp only [g0.1, g0.2, g1.1, g1.2, g2.1, g2.2, g3.1, g3.2, g4.1, g4.2, g5.1, g5.2, a1, b1, c1, c2, c3, c4, c5, c6, fl_lit, fl_nadd, fl_nmul, fl_ndiv, fl_nsub, fl_msub, fl_nle, fl_nlt, fl_neq, fl_nclamp, fl_nin, fl_ltT, fl_ltF, fl_leT, fl_leF, fl_eqT, fl_eqF, decide_true, decide_false, Bool.true_and, Bool.and_true, Bool.false_and, Bool.and_false, if_true, if_false, Bool.false_eq_true, Option.isSome_some, Option.getD_some, not_true_eq_false, not_false_eq_true, Option.toList_some, Option.toList_none, List.cons_append, List.nil_append, e1, e2, e3, e4, e5, e6, fbP_70_51, fbP_70_62, fbP_70_73, fbP_70_84, fbP_70_95, fbP_70_106]
end
