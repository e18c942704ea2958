/-! line -/
def fl_lineV (g : Nat → Nat) (k q : Nat) : Int32 :=
  if q = 0 then Int32.ofNat (g (4 + k)) else if q = 1 then Int32.ofNat (g (28 + k)) else if q = 2 then (if g (28 + k) = 0 then -1 else Int32.ofNat (g (16 + k))) else if q = 3 then (if g (4 + k) = 8 then Int32.ofNat (g (40 + k)) else -1) else if q = 4 then (if fl_any (fun j => decide (g (72 + j) = k)) (g 3) = true then Int32.ofNat 1 else Int32.ofNat 0) else Int32.ofNat (fl_cnt (fun p => decide (g (52 + p) = k)) (g 2))
section
variable {k0 : Nat → Nat × Nat} {h h' : fl_H} {c : Nat × Nat × Nat × Bool}
theorem fl_nin_ne {q : Int32} {n : Nat} (c : ¬ fl_in q n = true) {i : Nat} (hi : i < n) (hs : i < 2147483648) : ¬ q = Int32.ofNat i := fun z => c (by subst z; rw [fl_nin hs]; exact decide_eq_true hi)
theorem fo_line_a0 {g : Nat → Nat} {s : Int64} (hg : fl_g k0 h) (w : fl_wf g) (d : fl_rn h 27 g s) {k q : Nat} (hk : k < g 0) (hq : q < 6) : fl_cl fl_C 93 [.ref 0, .int (Int32.ofNat k), .int (Int32.ofNat q)] h = some (some (some (.int (fl_lineV g k q))), h) := by
  have O := fl_o27 (k0 := k0)
  have w0 : g 0 ≤ 12 := w.1.2.2.2.1
  have N := O.2.1
  have o27 : fl_KK k0 27 = (1, 7) ∧ fl_RR 27 0 = some (27 + 1) := ⟨O.1.1, O.1.2.1⟩
  have e64 := fc_64 hg N w d.1 (Int32.ofNat k)
  rw [fl_nin (by omega), decide_eq_true hk, if_pos rfl] at e64
  have e61 := fc_61 hg N w d.1 (show k < 256 by omega)
  have e92 := fc_92 hg N w d.1 (show k < 256 by omega)
  have i1 := fc_int N.2.1 hg (show k < 12 by omega)
  have i2 := fc_int N.2.2.1 hg (show k < 12 by omega)
  have i3 := fc_int N.2.2.2.1 hg (show k < 12 by omega)
  have i4 := fc_int N.2.2.2.2.1 hg (show k < 12 by omega)
  rw [d.1.2.1 k hk, fl_o32] at i1
  rw [d.1.2.2.1 k hk, fl_o32] at i2
  rw [d.1.2.2.2.1 k hk] at i3
  rw [d.1.2.2.2.2.1 k hk] at i4
  have n1 := N.1
  have c1 := N.2.1.1
  have c2 := N.2.2.1.1
  have c3 := N.2.2.2.1.1
  have c4 := N.2.2.2.2.1.1
  clear w d N O
  rw [fbE_93]
  rcases (show q = 0 ∨ q = 1 ∨ q = 2 ∨ q = 3 ∨ q = 4 ∨ q = 5 by omega) with e | e | e | e | e | e <;> subst e
  · simp (disch := omega) only [hg.1, hg.2, fl_KF, fl_RF, o27, n1, c1, fl_lit, fl_nadd, fl_nmul, fl_ndiv, fl_nsub, fl_msub, fl_nle, fl_nlt, fl_neq, fl_nclamp, fl_nin, fl_ltT, fl_ltF, fl_leT, fl_leF, fl_eqT, fl_eqF, decide_true, decide_false, Bool.true_and, Bool.and_true, Bool.false_and, Bool.and_false, if_true, if_false, Bool.false_eq_true, Option.isSome_some, Option.getD_some, not_true_eq_false, not_false_eq_true, Option.toList_some, Option.toList_none, List.cons_append, List.nil_append, e64, fbP_93_13, i1, fbP_93_72]; rfl
  · simp (disch := omega) only [hg.1, hg.2, fl_KF, fl_RF, o27, n1, c2, fl_lit, fl_nadd, fl_nmul, fl_ndiv, fl_nsub, fl_msub, fl_nle, fl_nlt, fl_neq, fl_nclamp, fl_nin, fl_ltT, fl_ltF, fl_leT, fl_leF, fl_eqT, fl_eqF, decide_true, decide_false, Bool.true_and, Bool.and_true, Bool.false_and, Bool.and_false, if_true, if_false, Bool.false_eq_true, Option.isSome_some, Option.getD_some, not_true_eq_false, not_false_eq_true, Option.toList_some, Option.toList_none, List.cons_append, List.nil_append, e64, fbP_93_13, i2, fbP_93_81]; rfl
  · simp (disch := omega) only [hg.1, hg.2, fl_KF, fl_RF, o27, n1, c3, fl_lit, fl_nadd, fl_nmul, fl_ndiv, fl_nsub, fl_msub, fl_nle, fl_nlt, fl_neq, fl_nclamp, fl_nin, fl_ltT, fl_ltF, fl_leT, fl_leF, fl_eqT, fl_eqF, decide_true, decide_false, Bool.true_and, Bool.and_true, Bool.false_and, Bool.and_false, if_true, if_false, Bool.false_eq_true, Option.isSome_some, Option.getD_some, not_true_eq_false, not_false_eq_true, Option.toList_some, Option.toList_none, List.cons_append, List.nil_append, e64, fbP_93_13, i3, fbP_93_90]
    unfold fl_lineV
    by_cases z : g (28 + k) = 0
    · rw [if_pos z, if_neg (by omega), if_neg (by omega), if_pos rfl, if_pos z]; rfl
    · rw [if_neg z, if_neg (by omega), if_neg (by omega), if_pos rfl, if_neg z, fl_o32]
  · simp (disch := omega) only [hg.1, hg.2, fl_KF, fl_RF, o27, n1, c4, fl_lit, fl_nadd, fl_nmul, fl_ndiv, fl_nsub, fl_msub, fl_nle, fl_nlt, fl_neq, fl_nclamp, fl_nin, fl_ltT, fl_ltF, fl_leT, fl_leF, fl_eqT, fl_eqF, decide_true, decide_false, Bool.true_and, Bool.and_true, Bool.false_and, Bool.and_false, if_true, if_false, Bool.false_eq_true, Option.isSome_some, Option.getD_some, not_true_eq_false, not_false_eq_true, Option.toList_some, Option.toList_none, List.cons_append, List.nil_append, e64, fbP_93_13, i4, fbP_93_99]
    unfold fl_lineV
    by_cases z : g (4 + k) = 8
    · rw [if_pos z, if_neg (show ¬ 3 = 0 by omega), if_neg (show ¬ 3 = 1 by omega), if_neg (show ¬ 3 = 2 by omega), if_pos rfl, if_pos z, fl_o32]
    · rw [if_neg z, if_neg (show ¬ 3 = 0 by omega), if_neg (show ¬ 3 = 1 by omega), if_neg (show ¬ 3 = 2 by omega), if_pos rfl, if_neg z]; rfl
  · simp (disch := omega) only [hg.1, hg.2, fl_KF, fl_RF, o27, n1, fl_lit, fl_nadd, fl_nmul, fl_ndiv, fl_nsub, fl_msub, fl_nle, fl_nlt, fl_neq, fl_nclamp, fl_nin, fl_ltT, fl_ltF, fl_leT, fl_leF, fl_eqT, fl_eqF, decide_true, decide_false, Bool.true_and, Bool.and_true, Bool.false_and, Bool.and_false, if_true, if_false, Bool.false_eq_true, Option.isSome_some, Option.getD_some, not_true_eq_false, not_false_eq_true, Option.toList_some, Option.toList_none, List.cons_append, List.nil_append, e64, fbP_93_13, e61, fbP_93_105]
    unfold fl_lineV
    rw [if_neg (show ¬ 4 = 0 by omega), if_neg (show ¬ 4 = 1 by omega), if_neg (show ¬ 4 = 2 by omega), if_neg (show ¬ 4 = 3 by omega), if_pos rfl]
    by_cases z : fl_any (fun j => decide (g (72 + j) = k)) (g 3) = true
    · rw [if_pos z]; rfl
    · rw [if_neg z]; rfl
  · simp (disch := omega) only [hg.1, hg.2, fl_KF, fl_RF, o27, n1, fl_lit, fl_nadd, fl_nmul, fl_ndiv, fl_nsub, fl_msub, fl_nle, fl_nlt, fl_neq, fl_nclamp, fl_nin, fl_ltT, fl_ltF, fl_leT, fl_leF, fl_eqT, fl_eqF, decide_true, decide_false, Bool.true_and, Bool.and_true, Bool.false_and, Bool.and_false, if_true, if_false, Bool.false_eq_true, Option.isSome_some, Option.getD_some, not_true_eq_false, not_false_eq_true, Option.toList_some, Option.toList_none, List.cons_append, List.nil_append, e64, fbP_93_13, e92, fbP_93_119]; rfl
theorem fo_line_a1 {g : Nat → Nat} {s : Int64} (hg : fl_g k0 h) (w : fl_wf g) (d : fl_rn h 27 g s) {p q : Int32} (hn : ¬ (fl_in p (g 0) = true ∧ fl_in q 6 = true)) : fl_cl fl_C 93 [.ref 0, .int p, .int q] h = some (none, fl_th h) := by
  have O := fl_o27 (k0 := k0)
  have N := O.2.1
  have o27 : fl_KK k0 27 = (1, 7) ∧ fl_RR 27 0 = some (27 + 1) := ⟨O.1.1, O.1.2.1⟩
  have e64 := fc_64 hg N w d.1 p
  have n1 := N.1
  clear w d N O
  rw [fbE_93]
  by_cases z : fl_in p (g 0) = true
  · rw [if_pos z] at e64
    have y : ¬ fl_in q 6 = true := fun y => hn ⟨z, y⟩
    have y0 := fl_nin_ne y (show 0 < 6 by omega) (by omega)
    have y1 := fl_nin_ne y (show 1 < 6 by omega) (by omega)
    have y2 := fl_nin_ne y (show 2 < 6 by omega) (by omega)
    have y3 := fl_nin_ne y (show 3 < 6 by omega) (by omega)
    have y4 := fl_nin_ne y (show 4 < 6 by omega) (by omega)
    have y5 := fl_nin_ne y (show 5 < 6 by omega) (by omega)
    simp (disch := omega) only [hg.1, hg.2, fl_KF, fl_RF, o27, n1, fl_lit, fl_nadd, fl_nmul, fl_ndiv, fl_nsub, fl_msub, fl_nle, fl_nlt, fl_neq, fl_nclamp, fl_nin, fl_ltT, fl_ltF, fl_leT, fl_leF, fl_eqT, fl_eqF, decide_true, decide_false, Bool.true_and, Bool.and_true, Bool.false_and, Bool.and_false, if_true, if_false, Bool.false_eq_true, Option.isSome_some, Option.getD_some, not_true_eq_false, not_false_eq_true, Option.toList_some, Option.toList_none, List.cons_append, List.nil_append, e64, fbP_93_13, y0, y1, y2, y3, y4, y5]
  · rw [if_neg z] at e64
    simp (disch := omega) only [hg.1, hg.2, fl_KF, fl_RF, o27, n1, fl_lit, fl_nadd, fl_nmul, fl_ndiv, fl_nsub, fl_msub, fl_nle, fl_nlt, fl_neq, fl_nclamp, fl_nin, fl_ltT, fl_ltF, fl_leT, fl_leF, fl_eqT, fl_eqF, decide_true, decide_false, Bool.true_and, Bool.and_true, Bool.false_and, Bool.and_false, if_true, if_false, Bool.false_eq_true, Option.isSome_some, Option.getD_some, not_true_eq_false, not_false_eq_true, Option.toList_some, Option.toList_none, List.cons_append, List.nil_append, e64, fbP_93_13]
theorem fo_line_a {g : Nat → Nat} {s : Int64} (hg : fl_g k0 h) (w : fl_wf g) (d : fl_rn h 27 g s) (p q : Int32) : fl_cl fl_C 94 [.ref 0, .int p, .int q, .ref 284] h = if fl_in p (g 0) = true ∧ fl_in q 6 = true then some (some (some (.int (Int32.ofNat 0))), fl_wl h 284 (fl_up (fl_l h 284) 0 (Int32.toInt64 (fl_lineV g p.toNatClampNeg q.toNatClampNeg)))) else some (some (some (.int (Int32.ofNat 1))), fl_th h) := by
  have w0 : g 0 ≤ 12 := w.1.2.2.2.1
  by_cases c0 : fl_in p (g 0) = true ∧ fl_in q 6 = true
  · rw [if_pos c0]
    obtain ⟨k, hk, rfl⟩ := fl_in_ex c0.1
    obtain ⟨q, hq, rfl⟩ := fl_in_ex c0.2
    rw [fl_nclamp (show k < 2147483648 by omega), fl_nclamp (show q < 2147483648 by omega)]
    have a := fo_line_a0 hg w d hk hq
    clear w d
    rw [fbE_94]
    simp (disch := omega) only [fl_k_wl, fl_r_wl, fl_i_wl, fl_l_wl, fl_1_wl, fl_k_wi, fl_r_wi, fl_l_wi, fl_1_wi, fl_i_wi, fl_k_si, fl_r_si, fl_l_si, fl_k_sl, fl_r_sl, fl_i_sl, fl_up_self, fl_up_ne, fl_si_wi, fl_sl_wl, fl_wi_wi, fl_wl_wl, hg.1, hg.2, fl_KF, fl_KO, fl_lit, fl_nadd, fl_nmul, fl_ndiv, fl_nsub, fl_msub, fl_nle, fl_nlt, fl_neq, fl_nclamp, fl_nin, fl_ltT, fl_ltF, fl_leT, fl_leF, fl_eqT, fl_eqF, decide_true, decide_false, Bool.true_and, Bool.and_true, Bool.false_and, Bool.and_false, if_true, if_false, Bool.false_eq_true, Option.isSome_some, Option.getD_some, not_true_eq_false, not_false_eq_true, Option.toList_some, Option.toList_none, List.cons_append, List.nil_append, a, fbP_94_8n]
  · rw [if_neg c0]
    have a := fo_line_a1 hg w d c0
    clear w d
    rw [fbE_94]
    simp (disch := omega) only [hg.1, hg.2, fl_KF, fl_lit, fl_nadd, fl_nmul, fl_ndiv, fl_nsub, fl_msub, fl_nle, fl_nlt, fl_neq, fl_nclamp, fl_nin, fl_ltT, fl_ltF, fl_leT, fl_leF, fl_eqT, fl_eqF, decide_true, decide_false, Bool.true_and, Bool.and_true, Bool.false_and, Bool.and_false, if_true, if_false, Bool.false_eq_true, Option.isSome_some, Option.getD_some, not_true_eq_false, not_false_eq_true, Option.toList_some, Option.toList_none, List.cons_append, List.nil_append, a, fbX_94_8n]
theorem fo_line_b {g : Nat → Nat} (hg : fl_g k0 h) (m : fl_mm h g) (w : fl_wf g) (p q : Int32) : fl_cl fl_C 100 [.ref 259, .int p, .int q] h = some (some (some (.int (if fl_in p (g 0) = true ∧ fl_in q 6 = true then fl_lineV g p.toNatClampNeg q.toNatClampNeg else Int32.ofNat 0))), fl_wi h 259 (fl_up (fl_i h 259) 0 (if fl_in p (g 0) = true ∧ fl_in q 6 = true then Int32.ofNat 0 else Int32.ofNat 1))) := by
  have w0 : g 0 ≤ 12 := w.1.2.2.2.1
  have w2 : g 2 ≤ 20 := w.1.2.2.2.2.1
  have w3 : g 3 ≤ 4 := w.1.2.2.2.2.2.2.1
  have e96 := fr_96 hg m w0 p
  have e37 := fr_37 (h := h) (Int32.toInt64 q) 0 5
  have ew : (0 ≤ Int32.toInt64 q ∧ Int32.toInt64 q ≤ 5) ↔ fl_in q 6 = true := fl_in64n (n := 5) (by omega) q
  rw [show (if 0 ≤ Int32.toInt64 q ∧ Int32.toInt64 q ≤ 5 then Int32.ofNat 1 else Int32.ofNat 0) = if fl_in q 6 = true then Int32.ofNat 1 else Int32.ofNat 0 from by
    by_cases z : fl_in q 6 = true
    · rw [if_pos z, if_pos (ew.mpr z)]
    · rw [if_neg z, if_neg (fun y => z (ew.mp y))]] at e37
  have z0 : (if Int32.ofNat 0 = Int32.ofNat 0 then Int32.ofNat 0 else Int32.ofNat 1) = Int32.ofNat 0 := if_pos rfl
  have z1 : (if Int32.ofNat 1 = Int32.ofNat 0 then Int32.ofNat 0 else Int32.ofNat 1) = Int32.ofNat 1 := if_neg (by decide)
  have e790 := fr_79 (h := h) (Int32.ofNat 0)
  have e791 := fr_79 (h := h) (Int32.ofNat 1)
  rw [z0] at e790
  rw [z1] at e791
  by_cases c0 : fl_in p (g 0) = true ∧ fl_in q 6 = true
  · rw [if_pos c0, if_pos c0]
    rw [if_pos c0.1] at e96
    rw [if_pos c0.2] at e37
    obtain ⟨k, hk, rfl⟩ := fl_in_ex c0.1
    obtain ⟨q, hq, rfl⟩ := fl_in_ex c0.2
    rw [fl_nclamp (show k < 2147483648 by omega), fl_nclamp (show q < 2147483648 by omega)]
    have q0 := fl_qt_0 (h := h) (x := Int32.ofNat 0)
    have hgH := fl_qo_g hg (fl_qt_qo q0)
    have mH := fl_qo_mm m (fl_qt_qo q0)
    have i0 : fl_i (fl_wi h 259 (fl_up (fl_i h 259) 0 (Int32.ofNat 0))) 259 0 = Int32.ofNat 0 := by rw [fl_i_wi, if_pos rfl, fl_up_self]
    have hs : fl_si h 259 0 (Int32.ofNat 0) = fl_wi h 259 (fl_up (fl_i h 259) 0 (Int32.ofNat 0)) := fl_si_wi
    have b := w.2.2.2.2.2.2.2.2.1
    have b1 := b (4 + k) (by omega)
    have b2 := b (28 + k) (by omega)
    have e : fl_Rn fl_C 100 32 [some (.ref 259), some (.int (Int32.ofNat k)), some (.int (Int32.ofNat q))] [] (fl_wi h 259 (fl_up (fl_i h 259) 0 (Int32.ofNat 0))) = some (some (some (.int (fl_lineV g k q))), fl_wi h 259 (fl_up (fl_i h 259) 0 (Int32.ofNat 0))) := by
      clear hs q0 e96 e37 ew
      generalize fl_wi h 259 (fl_up (fl_i h 259) 0 (Int32.ofNat 0)) = H at *
      have e97 := fr_97 hgH mH b (show k < 12 by omega)
      have e98 := fr_98 hgH mH b w3 (show k < 256 by omega)
      have e99 := fr_99 hgH mH b w2 (show k < 256 by omega)
      have e790' := fr_79 (h := H) (Int32.ofNat 0)
      have e791' := fr_79 (h := H) (Int32.ofNat 1)
      rw [z0] at e790'
      rw [z1] at e791'
      have m1 := mH (4 + k) (by omega)
      have m2 := mH (28 + k) (by omega)
      have m3 := mH (16 + k) (by omega)
      have m4 := mH (40 + k) (by omega)
      clear w b mH m hg c0 e790 e791 z0 z1
      rw [fbC_100_32]
      rcases (show q = 0 ∨ q = 1 ∨ q = 2 ∨ q = 3 ∨ q = 4 ∨ q = 5 by omega) with e | e | e | e | e | e <;> subst e
      · simp (disch := omega) only [hgH.1, hgH.2, fl_KM, fl_RM, fl_lit, fl_nadd, fl_nmul, fl_ndiv, fl_nsub, fl_msub, fl_nle, fl_nlt, fl_neq, fl_nclamp, fl_nin, fl_ltT, fl_ltF, fl_leT, fl_leF, fl_eqT, fl_eqF, decide_true, decide_false, Bool.true_and, Bool.and_true, Bool.false_and, Bool.and_false, if_true, if_false, Bool.false_eq_true, Option.isSome_some, Option.getD_some, not_true_eq_false, not_false_eq_true, Option.toList_some, Option.toList_none, List.cons_append, List.nil_append, i0, fbC_100_83, m1]; rfl
      · simp (disch := omega) only [hgH.1, hgH.2, fl_KM, fl_RM, fl_lit, fl_nadd, fl_nmul, fl_ndiv, fl_nsub, fl_msub, fl_nle, fl_nlt, fl_neq, fl_nclamp, fl_nin, fl_ltT, fl_ltF, fl_leT, fl_leF, fl_eqT, fl_eqF, decide_true, decide_false, Bool.true_and, Bool.and_true, Bool.false_and, Bool.and_false, if_true, if_false, Bool.false_eq_true, Option.isSome_some, Option.getD_some, not_true_eq_false, not_false_eq_true, Option.toList_some, Option.toList_none, List.cons_append, List.nil_append, i0, fbC_100_93, m2]; rfl
      · unfold fl_lineV
        rw [if_neg (show ¬ 2 = 0 by omega), if_neg (show ¬ 2 = 1 by omega), if_pos rfl]
        by_cases z : g (28 + k) = 0
        · rw [if_pos z]
          rw [z] at m2
          simp (disch := omega) only [hgH.1, hgH.2, fl_KM, fl_RM, fl_lit, fl_nadd, fl_nmul, fl_ndiv, fl_nsub, fl_msub, fl_nle, fl_nlt, fl_neq, fl_nclamp, fl_nin, fl_ltT, fl_ltF, fl_leT, fl_leF, fl_eqT, fl_eqF, decide_true, decide_false, Bool.true_and, Bool.and_true, Bool.false_and, Bool.and_false, if_true, if_false, Bool.false_eq_true, Option.isSome_some, Option.getD_some, not_true_eq_false, not_false_eq_true, Option.toList_some, Option.toList_none, List.cons_append, List.nil_append, i0, fbC_100_103, m2]
        · rw [if_neg z]
          simp (disch := omega) only [hgH.1, hgH.2, fl_KM, fl_RM, fl_lit, fl_nadd, fl_nmul, fl_ndiv, fl_nsub, fl_msub, fl_nle, fl_nlt, fl_neq, fl_nclamp, fl_nin, fl_ltT, fl_ltF, fl_leT, fl_leF, fl_eqT, fl_eqF, decide_true, decide_false, Bool.true_and, Bool.and_true, Bool.false_and, Bool.and_false, if_true, if_false, Bool.false_eq_true, Option.isSome_some, Option.getD_some, not_true_eq_false, not_false_eq_true, Option.toList_some, Option.toList_none, List.cons_append, List.nil_append, i0, fbC_100_103, m2, fbC_100_119, m3]
      · unfold fl_lineV
        rw [if_neg (show ¬ 3 = 0 by omega), if_neg (show ¬ 3 = 1 by omega), if_neg (show ¬ 3 = 2 by omega), if_pos rfl]
        by_cases z : g (4 + k) = 8
        · rw [if_pos z]
          rw [if_pos z] at e97
          simp (disch := omega) only [hgH.1, hgH.2, fl_KM, fl_RM, fl_lit, fl_nadd, fl_nmul, fl_ndiv, fl_nsub, fl_msub, fl_nle, fl_nlt, fl_neq, fl_nclamp, fl_nin, fl_ltT, fl_ltF, fl_leT, fl_leF, fl_eqT, fl_eqF, decide_true, decide_false, Bool.true_and, Bool.and_true, Bool.false_and, Bool.and_false, if_true, if_false, Bool.false_eq_true, Option.isSome_some, Option.getD_some, not_true_eq_false, not_false_eq_true, Option.toList_some, Option.toList_none, List.cons_append, List.nil_append, i0, e97, fbP_100_126, fbC_100_137, m4]
        · rw [if_neg z]
          rw [if_neg z] at e97
          simp (disch := omega) only [hgH.1, hgH.2, fl_KM, fl_RM, fl_lit, fl_nadd, fl_nmul, fl_ndiv, fl_nsub, fl_msub, fl_nle, fl_nlt, fl_neq, fl_nclamp, fl_nin, fl_ltT, fl_ltF, fl_leT, fl_leF, fl_eqT, fl_eqF, decide_true, decide_false, Bool.true_and, Bool.and_true, Bool.false_and, Bool.and_false, if_true, if_false, Bool.false_eq_true, Option.isSome_some, Option.getD_some, not_true_eq_false, not_false_eq_true, Option.toList_some, Option.toList_none, List.cons_append, List.nil_append, i0, e97, fbP_100_126]
      · unfold fl_lineV
        rw [if_neg (show ¬ 4 = 0 by omega), if_neg (show ¬ 4 = 1 by omega), if_neg (show ¬ 4 = 2 by omega), if_neg (show ¬ 4 = 3 by omega), if_pos rfl]
        by_cases z : fl_any (fun j => decide (g (72 + j) = k)) (g 3) = true
        · rw [if_pos z]
          rw [if_pos z] at e98
          simp (disch := omega) only [hgH.1, hgH.2, fl_KM, fl_RM, fl_lit, fl_nadd, fl_nmul, fl_ndiv, fl_nsub, fl_msub, fl_nle, fl_nlt, fl_neq, fl_nclamp, fl_nin, fl_ltT, fl_ltF, fl_leT, fl_leF, fl_eqT, fl_eqF, decide_true, decide_false, Bool.true_and, Bool.and_true, Bool.false_and, Bool.and_false, if_true, if_false, Bool.false_eq_true, Option.isSome_some, Option.getD_some, not_true_eq_false, not_false_eq_true, Option.toList_some, Option.toList_none, List.cons_append, List.nil_append, i0, e98, fbP_100_148, e791', fbP_100_151]
        · rw [if_neg z]
          rw [if_neg z] at e98
          simp (disch := omega) only [hgH.1, hgH.2, fl_KM, fl_RM, fl_lit, fl_nadd, fl_nmul, fl_ndiv, fl_nsub, fl_msub, fl_nle, fl_nlt, fl_neq, fl_nclamp, fl_nin, fl_ltT, fl_ltF, fl_leT, fl_leF, fl_eqT, fl_eqF, decide_true, decide_false, Bool.true_and, Bool.and_true, Bool.false_and, Bool.and_false, if_true, if_false, Bool.false_eq_true, Option.isSome_some, Option.getD_some, not_true_eq_false, not_false_eq_true, Option.toList_some, Option.toList_none, List.cons_append, List.nil_append, i0, e98, fbP_100_148, e790', fbP_100_151]
      · simp (disch := omega) only [hgH.1, hgH.2, fl_KM, fl_RM, fl_lit, fl_nadd, fl_nmul, fl_ndiv, fl_nsub, fl_msub, fl_nle, fl_nlt, fl_neq, fl_nclamp, fl_nin, fl_ltT, fl_ltF, fl_leT, fl_leF, fl_eqT, fl_eqF, decide_true, decide_false, Bool.true_and, Bool.and_true, Bool.false_and, Bool.and_false, if_true, if_false, Bool.false_eq_true, Option.isSome_some, Option.getD_some, not_true_eq_false, not_false_eq_true, Option.toList_some, Option.toList_none, List.cons_append, List.nil_append, i0, e99, fbP_100_157]; rfl
    have hgk := hg.1
    clear w b m mH
    rw [fbE_100]
    simp (disch := omega) only [hg.1, fl_KM, fl_RM, fl_lit, fl_nadd, fl_nmul, fl_ndiv, fl_nsub, fl_msub, fl_nle, fl_nlt, fl_neq, fl_nclamp, fl_nin, fl_ltT, fl_ltF, fl_leT, fl_leF, fl_eqT, fl_eqF, decide_true, decide_false, Bool.true_and, Bool.and_true, Bool.false_and, Bool.and_false, if_true, if_false, Bool.false_eq_true, Option.isSome_some, Option.getD_some, not_true_eq_false, not_false_eq_true, Option.toList_some, Option.toList_none, List.cons_append, List.nil_append, e96, fbP_100_6, e37, fbP_100_18, e790, fbP_100_29, hs, e]
  · rw [if_neg c0, if_neg c0]
    have i0 : fl_i (fl_wi h 259 (fl_up (fl_i h 259) 0 (Int32.ofNat 1))) 259 0 = Int32.ofNat 1 := by rw [fl_i_wi, if_pos rfl, fl_up_self]
    rw [fbE_100]
    by_cases z : fl_in p (g 0) = true
    · have y : ¬ fl_in q 6 = true := fun y => c0 ⟨z, y⟩
      rw [if_pos z] at e96
      rw [if_neg y] at e37
      clear w m
      simp (disch := omega) only [hg.1, fl_KM, fl_RM, fl_lit, fl_nadd, fl_nmul, fl_ndiv, fl_nsub, fl_msub, fl_nle, fl_nlt, fl_neq, fl_nclamp, fl_nin, fl_ltT, fl_ltF, fl_leT, fl_leF, fl_eqT, fl_eqF, decide_true, decide_false, Bool.true_and, Bool.and_true, Bool.false_and, Bool.and_false, if_true, if_false, Bool.false_eq_true, Option.isSome_some, Option.getD_some, not_true_eq_false, not_false_eq_true, Option.toList_some, Option.toList_none, List.cons_append, List.nil_append, e96, fbP_100_6, e37, fbP_100_18, e791, fbP_100_29, fl_si_wi, fbC_100_32, fl_k_wi, i0]
    · rw [if_neg z] at e96
      clear w m
      simp (disch := omega) only [hg.1, fl_KM, fl_RM, fl_lit, fl_nadd, fl_nmul, fl_ndiv, fl_nsub, fl_msub, fl_nle, fl_nlt, fl_neq, fl_nclamp, fl_nin, fl_ltT, fl_ltF, fl_leT, fl_leF, fl_eqT, fl_eqF, decide_true, decide_false, Bool.true_and, Bool.and_true, Bool.false_and, Bool.and_false, if_true, if_false, Bool.false_eq_true, Option.isSome_some, Option.getD_some, not_true_eq_false, not_false_eq_true, Option.toList_some, Option.toList_none, List.cons_append, List.nil_append, e96, fbP_100_6, e791, fbP_100_29, fl_si_wi, fbC_100_32, fl_k_wi, i0]
theorem fo_line (I : fl_Inv k0 c h) (p q : Int32) : fl_bothT k0 c 94 100 [.int p, .int q] h := by
  obtain ⟨g, g1, g2, b1, b2, s, s1, s2, iG⟩ := I.2.2.2.2.2
  have a := fo_line_a I.1 iG.1 iG.2.2.2.1 p q
  by_cases c0 : fl_in p (g 0) = true ∧ fl_in q 6 = true
  · rw [if_pos c0] at a
    have I1 := fl_Inv_out I (fl_up (fl_l h 284) 0 (Int32.toInt64 (fl_lineV g p.toNatClampNeg q.toNatClampNeg)))
    have b := fo_line_b I1.1 (show fl_mm (fl_wl h 284 _) g from fun j hj => by rw [fl_i_wl]; exact iG.2.1 j hj) iG.1 p q
    rw [if_pos c0, if_pos c0] at b
    have I2 := fl_Inv_qt I1 (fl_qt_0 (x := Int32.ofNat 0))
    have t := fr_101 I2.1
    rw [fl_i_wi, if_pos rfl, fl_up_self] at t
    refine ⟨_, _, _, _, c, Or.inl rfl, a, b, t, fun _ => ?_, I2⟩
    rw [fl_l_wi, fl_l_wl, if_pos rfl, fl_up_self]
  · rw [if_neg c0] at a
    have I1 := fl_Inv_th I
    have b := fo_line_b I1.1 (show fl_mm (fl_th h) g from iG.2.1) iG.1 p q
    rw [if_neg c0, if_neg c0] at b
    have I2 := fl_Inv_qt I1 (fl_qt_0 (x := Int32.ofNat 1))
    have t := fr_101 I2.1
    rw [fl_i_wi, if_pos rfl, fl_up_self] at t
    exact ⟨_, _, _, _, _, Or.inr rfl, a, b, t, fun z => absurd z (by decide), I2⟩
end
