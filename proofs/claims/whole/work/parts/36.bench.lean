/-! BENCHES of the class, what is read of them -/
abbrev fl_isB (k0 : Nat → Nat × Nat) (b : Nat) : Prop := (fl_KK k0 b = (1, 0) ∧ fl_RR b 0 = some (b + 1) ∧ fl_RR b 1 = some (b + 10)) ∧ fl_isS k0 (b + 1) ∧ fl_isS k0 (b + 10)
theorem fc_120 {h : fl_H} (x : Int64) {f : Nat} (hf : f < 64) : fl_cl fl_C 120 [.long x, .int (Int32.ofNat f)] h = some (some (some (.int (if fl_hb x f = true then Int32.ofNat 1 else Int32.ofNat 0))), h) := by
  rw [fbE_120, fl_hb_shr hf]
  simp only [lg_cmp_eq]
  rcases Bool.eq_false_or_eq_true (fl_hb x f) with e | e
  · rw [e, if_pos rfl, if_pos rfl]; rfl
  · rw [e]; rfl
def fl_bo (F : Nat → Int64) : Nat → Int64
  | 0 => 0
  | n + 1 => fl_bo F n ||| F n
theorem fl_bo_B {F : Nat → Int64} {q : Nat → Nat → Bool} : ∀ {n : Nat}, (∀ j, j < n → F j = fl_B (q j)) → fl_bo F n = fl_B (fun c => fl_any (fun j => q j c) n)
  | 0, _ => fl_B_0
  | n + 1, h => by
    rw [fl_bo, fl_bo_B (fun j hj => h j (by omega)), h n (by omega), fl_B_or]
    rfl
/-- the list of a line -/
def fl_dl (h : fl_H) (b k : Nat) : Int64 := (fl_l h (b + 10 + 2) k &&& fl_l h (b + 1 + 4) k) ||| (fl_l h (b + 10 + 4) k &&& fl_l h (b + 1 + 2) k)
section
variable {k0 : Nat → Nat × Nat} {h : fl_H} {g : Nat → Nat} {n o a b r : Nat}
theorem fc_117 (hg : fl_g k0 h) (sa : fl_isS k0 a) (sb : fl_isS k0 b) {k : Nat} (hk : k < 12) : fl_cl fl_C 117 [.ref a, .ref b, .int (Int32.ofNat k)] h = some (some (some (.long ((fl_l h (a + 2) k &&& fl_l h (b + 4) k) ||| (fl_l h (a + 4) k &&& fl_l h (b + 2) k)))), h) := by
  have a1 := fc_at sa.2.1 hg hk
  have a0 := fc_at sa.2.2.1 hg hk
  have b1 := fc_at sb.2.1 hg hk
  have b0 := fc_at sb.2.2.1 hg hk
  rw [fbE_117]
  simp only [hg.1, hg.2, sa.1, sb.1, sa.2.1, sa.2.2.1, sb.2.1, sb.2.2.1, fl_lit, fl_nadd, fl_nmul, fl_ndiv, fl_nsub, fl_msub, fl_nle, fl_nlt, fl_neq, fl_nclamp, fl_nin, fl_ltT, fl_ltF, fl_leT, fl_leF, fl_eqT, fl_eqF, decide_true, decide_false, Bool.true_and, Bool.and_true, Bool.false_and, Bool.and_false, if_true, if_false, Bool.false_eq_true, Option.isSome_some, Option.getD_some, not_true_eq_false, not_false_eq_true, Option.toList_some, Option.toList_none, List.cons_append, List.nil_append, a1, a0, b1, b0, fbP_117_8, fbP_117_16, fbP_117_25, fbP_117_33]
theorem fc_118 (hg : fl_g k0 h) (sb : fl_isB k0 b) {k : Nat} (hk : k < 12) : fl_cl fl_C 118 [.ref b, .int (Int32.ofNat k)] h = some (some (some (.long (fl_dl h b k))), h) := by
  have e := fc_117 hg sb.2.2 sb.2.1 hk
  rw [fbE_118]
  simp only [hg.1, hg.2, sb.1, fl_lit, fl_nadd, fl_nmul, fl_ndiv, fl_nsub, fl_msub, fl_nle, fl_nlt, fl_neq, fl_nclamp, fl_nin, fl_ltT, fl_ltF, fl_leT, fl_leF, fl_eqT, fl_eqF, decide_true, decide_false, Bool.true_and, Bool.and_true, Bool.false_and, Bool.and_false, if_true, if_false, Bool.false_eq_true, Option.isSome_some, Option.getD_some, not_true_eq_false, not_false_eq_true, Option.toList_some, Option.toList_none, List.cons_append, List.nil_append, e, fbP_118_12]
  rfl
theorem fc_119 (hg : fl_g k0 h) (sb : fl_isB k0 b) (nn : fl_isN k0 n) (w : fl_wf g) (d : fl_net h n g) : fl_cl fl_C 119 [.ref b, .ref n] h = some (some (some (.long (fl_bo (fun j => fl_dl h b (g (72 + j))) (g 3)))), h) := by
  have w1 := w.1
  have lp := fl_iter (fun j => fl_Rn fl_C 119 5 [some (.ref b), some (.ref n), some (.long (fl_bo (fun j => fl_dl h b (g (72 + j))) j)), none, some (.int (Int32.ofNat j))] [] h) (g 3) (by
    intro j hj
    try dsimp only
    have h1 := w.2.2.2.2.2.1 j hj
    have e := fc_118 hg sb (show g (72 + j) < 12 by omega)
    have ei := fc_int nn.2.2.2.2.2.2 hg (show j < 4 by omega)
    rw [d.2.2.2.2.2.2 j hj, fl_o32] at ei
    have d1 := d.1
    have w3 : g 3 ≤ 4 := by omega
    clear w w1 d
    rw [fbC_119_5]
    simp (disch := omega) only [hg.1, hg.2, nn.1, nn.2.2.2.2.2.2, sb.1, d1, fl_lit, fl_nadd, fl_nmul, fl_ndiv, fl_nsub, fl_msub, fl_nle, fl_nlt, fl_neq, fl_nclamp, fl_nin, fl_ltT, fl_ltF, fl_leT, fl_leF, fl_eqT, fl_eqF, decide_true, decide_false, Bool.true_and, Bool.and_true, Bool.false_and, Bool.and_false, if_true, if_false, Bool.false_eq_true, Option.isSome_some, Option.getD_some, not_true_eq_false, not_false_eq_true, Option.toList_some, Option.toList_none, List.cons_append, List.nil_append, ei, fbP_119_25, e, fbP_119_28]
    rfl)
  have d1 := d.1
  rw [fbE_119]
  refine lp.trans ?_
  try dsimp only
  have w3 : g 3 ≤ 4 := by omega
  clear w w1 d lp
  rw [fbC_119_5]
  simp (disch := omega) only [hg.1, hg.2, nn.1, d1, fl_lit, fl_nadd, fl_nmul, fl_ndiv, fl_nsub, fl_msub, fl_nle, fl_nlt, fl_neq, fl_nclamp, fl_nin, fl_ltT, fl_ltF, fl_leT, fl_leF, fl_eqT, fl_eqF, decide_true, decide_false, Bool.true_and, Bool.and_true, Bool.false_and, Bool.and_false, if_true, if_false, Bool.false_eq_true, Option.isSome_some, Option.getD_some, not_true_eq_false, not_false_eq_true, Option.toList_some, Option.toList_none, List.cons_append, List.nil_append]
theorem fc_157 (hg : fl_g k0 h) (sb : fl_isB k0 b) {k : Nat} (hk : k < 12) : fl_cl fl_C 157 [.ref b, .int (Int32.ofNat k)] h = some (some (some (.long ((fl_l h (b + 10 + 2) k ||| fl_l h (b + 10 + 4) k) ^^^ (fl_l h (b + 1 + 2) k ||| fl_l h (b + 1 + 4) k)))), h) := by
  have a1 := fc_at sb.2.1.2.1 hg hk
  have a0 := fc_at sb.2.1.2.2.1 hg hk
  have b1 := fc_at sb.2.2.2.1 hg hk
  have b0 := fc_at sb.2.2.2.2.1 hg hk
  rw [fbE_157]
  simp only [hg.1, hg.2, sb.1, sb.2.1.1, sb.2.2.1, sb.2.1.2.1, sb.2.1.2.2.1, sb.2.2.2.1, sb.2.2.2.2.1, fl_lit, fl_nadd, fl_nmul, fl_ndiv, fl_nsub, fl_msub, fl_nle, fl_nlt, fl_neq, fl_nclamp, fl_nin, fl_ltT, fl_ltF, fl_leT, fl_leF, fl_eqT, fl_eqF, decide_true, decide_false, Bool.true_and, Bool.and_true, Bool.false_and, Bool.and_false, if_true, if_false, Bool.false_eq_true, Option.isSome_some, Option.getD_some, not_true_eq_false, not_false_eq_true, Option.toList_some, Option.toList_none, List.cons_append, List.nil_append, a1, a0, b1, b0, fbP_157_11, fbP_157_22, fbP_157_34, fbP_157_45]
theorem fc_166 (hg : fl_g k0 h) (sb : fl_isB k0 b) {k : Nat} (hk : k < 12) : fl_cl fl_C 166 [.ref b, .int (Int32.ofNat k)] h = some (some (some (.long ((fl_l h (b + 10 + 6) k ^^^ fl_l h (b + 1 + 6) k) ||| (fl_l h (b + 10 + 8) k ^^^ fl_l h (b + 1 + 8) k)))), h) := by
  have a1 := fc_at sb.2.1.2.2.2.1 hg hk
  have a0 := fc_at sb.2.1.2.2.2.2 hg hk
  have b1 := fc_at sb.2.2.2.2.2.1 hg hk
  have b0 := fc_at sb.2.2.2.2.2.2 hg hk
  rw [fbE_166]
  simp only [hg.1, hg.2, sb.1, sb.2.1.1, sb.2.2.1, sb.2.1.2.2.2.1, sb.2.1.2.2.2.2, sb.2.2.2.2.2.1, sb.2.2.2.2.2.2, fl_lit, fl_nadd, fl_nmul, fl_ndiv, fl_nsub, fl_msub, fl_nle, fl_nlt, fl_neq, fl_nclamp, fl_nin, fl_ltT, fl_ltF, fl_leT, fl_leF, fl_eqT, fl_eqF, decide_true, decide_false, Bool.true_and, Bool.and_true, Bool.false_and, Bool.and_false, if_true, if_false, Bool.false_eq_true, Option.isSome_some, Option.getD_some, not_true_eq_false, not_false_eq_true, Option.toList_some, Option.toList_none, List.cons_append, List.nil_append, a1, a0, b1, b0, fbP_166_11, fbP_166_22, fbP_166_34, fbP_166_45]
theorem fc_158 (hg : fl_g k0 h) (ss : fl_isS k0 o) {k c : Nat} (hk : k < 12) (hc : c < 64) : fl_cl fl_C 158 [.ref o, .int (Int32.ofNat k), .int (Int32.ofNat c)] h = some (some (some (.int (if fl_hb (fl_l h (o + 2) k) c = true then Int32.ofNat 1 else if fl_hb (fl_l h (o + 4) k) c = true then Int32.ofNat 0 else Int32.ofNat 2))), h) := by
  have a1 := fc_at ss.2.1 hg hk
  have a0 := fc_at ss.2.2.1 hg hk
  have h1 := fc_120 (h := h) (fl_l h (o + 2) k) hc
  have h0 := fc_120 (h := h) (fl_l h (o + 4) k) hc
  rw [fbE_158]
  simp only [hg.1, hg.2, ss.1, ss.2.1, ss.2.2.1, fl_lit, fl_nadd, fl_nmul, fl_ndiv, fl_nsub, fl_msub, fl_nle, fl_nlt, fl_neq, fl_nclamp, fl_nin, fl_ltT, fl_ltF, fl_leT, fl_leF, fl_eqT, fl_eqF, decide_true, decide_false, Bool.true_and, Bool.and_true, Bool.false_and, Bool.and_false, if_true, if_false, Bool.false_eq_true, Option.isSome_some, Option.getD_some, not_true_eq_false, not_false_eq_true, Option.toList_some, Option.toList_none, List.cons_append, List.nil_append, a1, fbP_158_8, h1, fbP_158_12]
  rcases Bool.eq_false_or_eq_true (fl_hb (fl_l h (o + 2) k) c) with e | e
  · simp (disch := omega) only [e, fl_lit, fl_nadd, fl_nmul, fl_ndiv, fl_nsub, fl_msub, fl_nle, fl_nlt, fl_neq, fl_nclamp, fl_nin, fl_ltT, fl_ltF, fl_leT, fl_leF, fl_eqT, fl_eqF, decide_true, decide_false, Bool.true_and, Bool.and_true, Bool.false_and, Bool.and_false, if_true, if_false, Bool.false_eq_true, Option.isSome_some, Option.getD_some, not_true_eq_false, not_false_eq_true, Option.toList_some, Option.toList_none, List.cons_append, List.nil_append]
  · simp (disch := omega) only [e, fl_lit, fl_nadd, fl_nmul, fl_ndiv, fl_nsub, fl_msub, fl_nle, fl_nlt, fl_neq, fl_nclamp, fl_nin, fl_ltT, fl_ltF, fl_leT, fl_leF, fl_eqT, fl_eqF, decide_true, decide_false, Bool.true_and, Bool.and_true, Bool.false_and, Bool.and_false, if_true, if_false, Bool.false_eq_true, Option.isSome_some, Option.getD_some, not_true_eq_false, not_false_eq_true, Option.toList_some, Option.toList_none, List.cons_append, List.nil_append, a0, fbP_158_27, h0, fbP_158_31]
    rcases Bool.eq_false_or_eq_true (fl_hb (fl_l h (o + 4) k) c) with e0 | e0
    · simp (disch := omega) only [e0, fl_lit, fl_nadd, fl_nmul, fl_ndiv, fl_nsub, fl_msub, fl_nle, fl_nlt, fl_neq, fl_nclamp, fl_nin, fl_ltT, fl_ltF, fl_leT, fl_leF, fl_eqT, fl_eqF, decide_true, decide_false, Bool.true_and, Bool.and_true, Bool.false_and, Bool.and_false, if_true, if_false, Bool.false_eq_true, Option.isSome_some, Option.getD_some, not_true_eq_false, not_false_eq_true, Option.toList_some, Option.toList_none, List.cons_append, List.nil_append]
    · simp (disch := omega) only [e0, fl_lit, fl_nadd, fl_nmul, fl_ndiv, fl_nsub, fl_msub, fl_nle, fl_nlt, fl_neq, fl_nclamp, fl_nin, fl_ltT, fl_ltF, fl_leT, fl_leF, fl_eqT, fl_eqF, decide_true, decide_false, Bool.true_and, Bool.and_true, Bool.false_and, Bool.and_false, if_true, if_false, Bool.false_eq_true, Option.isSome_some, Option.getD_some, not_true_eq_false, not_false_eq_true, Option.toList_some, Option.toList_none, List.cons_append, List.nil_append]
theorem fc_167 (hg : fl_g k0 h) (ss : fl_isS k0 o) {k c : Nat} (hk : k < 12) (hc : c < 64) : fl_cl fl_C 167 [.ref o, .int (Int32.ofNat k), .int (Int32.ofNat c)] h = some (some (some (.int (if fl_hb (fl_l h (o + 6) k) c = true then Int32.ofNat 1 else if fl_hb (fl_l h (o + 8) k) c = true then Int32.ofNat 0 else Int32.ofNat 2))), h) := by
  have a1 := fc_at ss.2.2.2.1 hg hk
  have a0 := fc_at ss.2.2.2.2 hg hk
  have h1 := fc_120 (h := h) (fl_l h (o + 6) k) hc
  have h0 := fc_120 (h := h) (fl_l h (o + 8) k) hc
  rw [fbE_167]
  simp only [hg.1, hg.2, ss.1, ss.2.2.2.1, ss.2.2.2.2, fl_lit, fl_nadd, fl_nmul, fl_ndiv, fl_nsub, fl_msub, fl_nle, fl_nlt, fl_neq, fl_nclamp, fl_nin, fl_ltT, fl_ltF, fl_leT, fl_leF, fl_eqT, fl_eqF, decide_true, decide_false, Bool.true_and, Bool.and_true, Bool.false_and, Bool.and_false, if_true, if_false, Bool.false_eq_true, Option.isSome_some, Option.getD_some, not_true_eq_false, not_false_eq_true, Option.toList_some, Option.toList_none, List.cons_append, List.nil_append, a1, fbP_167_8, h1, fbP_167_12]
  rcases Bool.eq_false_or_eq_true (fl_hb (fl_l h (o + 6) k) c) with e | e
  · simp (disch := omega) only [e, fl_lit, fl_nadd, fl_nmul, fl_ndiv, fl_nsub, fl_msub, fl_nle, fl_nlt, fl_neq, fl_nclamp, fl_nin, fl_ltT, fl_ltF, fl_leT, fl_leF, fl_eqT, fl_eqF, decide_true, decide_false, Bool.true_and, Bool.and_true, Bool.false_and, Bool.and_false, if_true, if_false, Bool.false_eq_true, Option.isSome_some, Option.getD_some, not_true_eq_false, not_false_eq_true, Option.toList_some, Option.toList_none, List.cons_append, List.nil_append]
  · simp (disch := omega) only [e, fl_lit, fl_nadd, fl_nmul, fl_ndiv, fl_nsub, fl_msub, fl_nle, fl_nlt, fl_neq, fl_nclamp, fl_nin, fl_ltT, fl_ltF, fl_leT, fl_leF, fl_eqT, fl_eqF, decide_true, decide_false, Bool.true_and, Bool.and_true, Bool.false_and, Bool.and_false, if_true, if_false, Bool.false_eq_true, Option.isSome_some, Option.getD_some, not_true_eq_false, not_false_eq_true, Option.toList_some, Option.toList_none, List.cons_append, List.nil_append, a0, fbP_167_27, h0, fbP_167_31]
    rcases Bool.eq_false_or_eq_true (fl_hb (fl_l h (o + 8) k) c) with e0 | e0
    · simp (disch := omega) only [e0, fl_lit, fl_nadd, fl_nmul, fl_ndiv, fl_nsub, fl_msub, fl_nle, fl_nlt, fl_neq, fl_nclamp, fl_nin, fl_ltT, fl_ltF, fl_leT, fl_leF, fl_eqT, fl_eqF, decide_true, decide_false, Bool.true_and, Bool.and_true, Bool.false_and, Bool.and_false, if_true, if_false, Bool.false_eq_true, Option.isSome_some, Option.getD_some, not_true_eq_false, not_false_eq_true, Option.toList_some, Option.toList_none, List.cons_append, List.nil_append]
    · simp (disch := omega) only [e0, fl_lit, fl_nadd, fl_nmul, fl_ndiv, fl_nsub, fl_msub, fl_nle, fl_nlt, fl_neq, fl_nclamp, fl_nin, fl_ltT, fl_ltF, fl_leT, fl_leF, fl_eqT, fl_eqF, decide_true, decide_false, Bool.true_and, Bool.and_true, Bool.false_and, Bool.and_false, if_true, if_false, Bool.false_eq_true, Option.isSome_some, Option.getD_some, not_true_eq_false, not_false_eq_true, Option.toList_some, Option.toList_none, List.cons_append, List.nil_append]
/-- a Run: its cells -/
abbrev fl_isR (k0 : Nat → Nat × Nat) (r : Nat) : Prop := (fl_KK k0 r = (1, 7) ∧ fl_RR r 0 = some (r + 1) ∧ fl_RR r 1 = some (r + 14) ∧ fl_RR r 2 = some (r + 33) ∧ fl_RR r 8 = some (r + 35) ∧ fl_RR r 9 = some (r + 37)) ∧ fl_isN k0 (r + 1) ∧ fl_isB k0 (r + 14) ∧ fl_isC k0 (r + 33) (r + 34) 24 ∧ fl_isC k0 (r + 35) (r + 36) 64 ∧ fl_isC k0 (r + 37) (r + 38) 64
def fl_os (h : fl_H) (b : Nat) (g : Nat → Nat) (f : Nat) : Int64 := fl_bo (fun j => if fl_hb (fl_dl h b (g (72 + j))) f = true then 1 <<< (Int32.toInt64 (Int32.ofNat (g (72 + j))) &&& 63) else 0) (g 3)
theorem fc_121 (hg : fl_g k0 h) (rr : fl_isR k0 r) (w : fl_wf g) (d : fl_net h (r + 1) g) {f : Nat} (hf : f < 64) : fl_cl fl_C 121 [.ref r, .int (Int32.ofNat f)] h = some (some (some (.long (fl_os h (r + 14) g f))), h) := by
  have w1 := w.1
  have lp := fl_iter (fun j => fl_Rn fl_C 121 5 [some (.ref r), some (.int (Int32.ofNat f)), some (.long (fl_bo (fun j => if fl_hb (fl_dl h (r + 14) (g (72 + j))) f = true then 1 <<< (Int32.toInt64 (Int32.ofNat (g (72 + j))) &&& 63) else 0) j)), none, some (.int (Int32.ofNat j))] [] h) (g 3) (by
    intro j hj
    try dsimp only
    have h1 := w.2.2.2.2.2.1 j hj
    have e := fc_118 hg rr.2.2.1 (show g (72 + j) < 12 by omega)
    have ei := fc_int rr.2.1.2.2.2.2.2.2 hg (show j < 4 by omega)
    rw [d.2.2.2.2.2.2 j hj, fl_o32] at ei
    have eb := fc_120 (h := h) (fl_dl h (r + 14) (g (72 + j))) hf
    have d1 := d.1
    have w3 : g 3 ≤ 4 := by omega
    clear w w1 d
    rw [fbC_121_5, fl_bo]
    simp (disch := omega) only [hg.1, hg.2, rr.1, rr.2.1.1, rr.2.1.2.2.2.2.2.2, rr.2.2.1.1, d1, fl_lit, fl_nadd, fl_nmul, fl_ndiv, fl_nsub, fl_msub, fl_nle, fl_nlt, fl_neq, fl_nclamp, fl_nin, fl_ltT, fl_ltF, fl_leT, fl_leF, fl_eqT, fl_eqF, decide_true, decide_false, Bool.true_and, Bool.and_true, Bool.false_and, Bool.and_false, if_true, if_false, Bool.false_eq_true, Option.isSome_some, Option.getD_some, not_true_eq_false, not_false_eq_true, Option.toList_some, Option.toList_none, List.cons_append, List.nil_append, ei, fbP_121_29, e, fbP_121_41, eb, fbP_121_45]
    rcases Bool.eq_false_or_eq_true (fl_hb (fl_dl h (r + 14) (g (72 + j))) f) with c | c <;> simp (disch := omega) only [c, fl_lit, fl_nadd, fl_nmul, fl_ndiv, fl_nsub, fl_msub, fl_nle, fl_nlt, fl_neq, fl_nclamp, fl_nin, fl_ltT, fl_ltF, fl_leT, fl_leF, fl_eqT, fl_eqF, decide_true, decide_false, Bool.true_and, Bool.and_true, Bool.false_and, Bool.and_false, if_true, if_false, Bool.false_eq_true, Option.isSome_some, Option.getD_some, not_true_eq_false, not_false_eq_true, Option.toList_some, Option.toList_none, List.cons_append, List.nil_append])
  have d1 := d.1
  rw [fbE_121]
  refine lp.trans ?_
  try dsimp only
  have w3 : g 3 ≤ 4 := by omega
  clear w w1 d lp
  rw [fbC_121_5]
  simp (disch := omega) only [hg.1, hg.2, rr.1, rr.2.1.1, d1, fl_lit, fl_nadd, fl_nmul, fl_ndiv, fl_nsub, fl_msub, fl_nle, fl_nlt, fl_neq, fl_nclamp, fl_nin, fl_ltT, fl_ltF, fl_leT, fl_leF, fl_eqT, fl_eqF, decide_true, decide_false, Bool.true_and, Bool.and_true, Bool.false_and, Bool.and_false, if_true, if_false, Bool.false_eq_true, Option.isSome_some, Option.getD_some, not_true_eq_false, not_false_eq_true, Option.toList_some, Option.toList_none, List.cons_append, List.nil_append]
  rfl
end
