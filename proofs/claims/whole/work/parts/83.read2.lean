/-! THE READER of the class: a sign, a letter, a pin, a start -/
theorem fl_u16 : ∀ t, t < 256 → (Int32.toUInt32 (Int32.ofNat t) % 65536).toInt32 = Int32.ofNat t := by decide +kernel
theorem fl_srt_ix : ∀ t, t < 256 → Int32.ofNat 1 + fl_oi (fl_any (fun j => decide (fl_sb8 0 j = (Int32.toInt8 (Int32.ofNat t)).toInt32)) 8) (fl_frst (fun j => decide (fl_sb8 0 j = (Int32.toInt8 (Int32.ofNat t)).toInt32)) 8) = Int32.ofNat (fl_srt t) := by decide +kernel
theorem fl_srt_8 (t : Nat) : fl_srt t ≤ 8 := by
  unfold fl_srt
  repeat' split
  all_goals omega
section
variable {k0 : Nat → Nat × Nat} {i0 : Nat → Nat → Int32} {h : fl_H} {g tx : Nat → Nat} {tn a : Nat} {P : fl_Ps} {l : List (Nat × Nat)}
theorem fc_55 (sk : fl_sk k0 i0) (hg : fl_g k0 h) (hs : fl_st k0 i0 h) {t : Nat} (ht : t < 256) : fl_cl fl_C 55 [.ref 1048576, .int (Int32.ofNat t)] h = some (some (some (.int (fl_oi (fl_any (fun j => decide (fl_sb8 0 j = (Int32.toInt8 (Int32.ofNat t)).toInt32)) 8) (fl_frst (fun j => decide (fl_sb8 0 j = (Int32.toInt8 (Int32.ofNat t)).toInt32)) 8)))), h) := by
  have k := fl_k7 sk hg (i := 0) (by omega)
  have c := fl_i5 sk hs (i := 0) (by omega)
  have e48 := fr_48 sk hg (i := 0) (by omega)
  rw [show fl_sl8 0 = 8 from rfl] at k e48
  simp only [Nat.add_zero] at k c e48
  have z : ((1 : Int32) = 0) = False := eq_false (by decide)
  have z0 : (¬ (0 : Int32) = 0) = False := eq_false (by decide)
  have e46 : fl_cl fl_C 46 [.ref 1048576] h = some (some (some (.int 1)), h) := by
    rw [fbE_46]
    simp only [z, z0, k.1, not_true_eq_false, decide_true, decide_false, if_true, if_false, Bool.false_eq_true]
  have e49 : fl_cl fl_C 49 [.int (Int32.ofNat t)] h = some (some (some (.int (Int32.ofNat 1))), h) := by
    rw [fbE_49]
    simp (disch := omega) only [fl_lit, fl_nadd, fl_nmul, fl_ndiv, fl_nsub, fl_msub, fl_nle, fl_nlt, fl_neq, fl_nclamp, fl_nin, fl_ltT, fl_ltF, fl_leT, fl_leF, fl_eqT, fl_eqF, decide_true, decide_false, Bool.true_and, Bool.and_true, Bool.false_and, Bool.and_false, if_true, if_false, Bool.false_eq_true, Option.isSome_some, Option.getD_some, not_true_eq_false, not_false_eq_true, Option.toList_some, Option.toList_none, List.cons_append, List.nil_append]
  have e50 := fr_50n (h := h) (a := 0) (b := 0) (by omega) (by omega)
  have e51 := fr_51n (h := h) (a := 8) (b := 8) (by omega) (by omega)
  rw [show max 0 0 = 0 from rfl] at e50
  rw [show min 8 8 = 8 from rfl] at e51
  have lp := fl_findN (fun j => fl_Rn fl_C 52 7 [some (.ref 1048592), none, none, some (.int (Int32.ofNat 8)), some (.int (Int32.toInt8 (Int32.ofNat t)).toInt32), some (.int (Int32.ofNat j))] [] h) (fun j => some (some (some (.int (Int32.ofNat j))), h)) (fun j => decide (fl_sb8 0 j = (Int32.toInt8 (Int32.ofNat t)).toInt32)) 8 (fun j hj => by
    generalize (Int32.toInt8 (Int32.ofNat t)).toInt32 = T at *
    by_cases q : fl_sb8 0 j = T
    · rw [if_pos (decide_eq_true q), fbC_52_7]
      simp (disch := omega) only [k.2, c, q, fl_lit, fl_nadd, fl_nmul, fl_ndiv, fl_nsub, fl_msub, fl_nle, fl_nlt, fl_neq, fl_nclamp, fl_nin, fl_ltT, fl_ltF, fl_leT, fl_leF, fl_eqT, fl_eqF, decide_true, decide_false, Bool.true_and, Bool.and_true, Bool.false_and, Bool.and_false, if_true, if_false, Bool.false_eq_true, Option.isSome_some, Option.getD_some, not_true_eq_false, not_false_eq_true, Option.toList_some, Option.toList_none, List.cons_append, List.nil_append]
    · rw [if_neg (by rw [decide_eq_false q]; decide), fbC_52_7]
      simp (disch := omega) only [k.2, c, q, fl_lit, fl_nadd, fl_nmul, fl_ndiv, fl_nsub, fl_msub, fl_nle, fl_nlt, fl_neq, fl_nclamp, fl_nin, fl_ltT, fl_ltF, fl_leT, fl_leF, fl_eqT, fl_eqF, decide_true, decide_false, Bool.true_and, Bool.and_true, Bool.false_and, Bool.and_false, if_true, if_false, Bool.false_eq_true, Option.isSome_some, Option.getD_some, not_true_eq_false, not_false_eq_true, Option.toList_some, Option.toList_none, List.cons_append, List.nil_append])
  have en : fl_Rn fl_C 52 7 [some (.ref 1048592), none, none, some (.int (Int32.ofNat 8)), some (.int (Int32.toInt8 (Int32.ofNat t)).toInt32), some (.int (Int32.ofNat 8))] [] h = some (some (some (.int (-Int32.ofNat 1))), h) := by
    rw [fbC_52_7]
    simp (disch := omega) only [fl_lit, fl_nadd, fl_nmul, fl_ndiv, fl_nsub, fl_msub, fl_nle, fl_nlt, fl_neq, fl_nclamp, fl_nin, fl_ltT, fl_ltF, fl_leT, fl_leF, fl_eqT, fl_eqF, decide_true, decide_false, Bool.true_and, Bool.and_true, Bool.false_and, Bool.and_false, if_true, if_false, Bool.false_eq_true, Option.isSome_some, Option.getD_some, not_true_eq_false, not_false_eq_true, Option.toList_some, Option.toList_none, List.cons_append, List.nil_append]
  rw [en] at lp
  have e52 : fl_cl fl_C 52 [.ref 1048592, .int (Int32.ofNat t), .int (Int32.ofNat 0), .int (Int32.ofNat 8)] h = some (some (some (.int (fl_oi (fl_any (fun j => decide (fl_sb8 0 j = (Int32.toInt8 (Int32.ofNat t)).toInt32)) 8) (fl_frst (fun j => decide (fl_sb8 0 j = (Int32.toInt8 (Int32.ofNat t)).toInt32)) 8)))), h) := by
    rw [fbE_52, lp]
    unfold fl_oi
    cases fl_any (fun j => decide (fl_sb8 0 j = (Int32.toInt8 (Int32.ofNat t)).toInt32)) 8 <;> rfl
  clear lp en c
  generalize fl_oi (fl_any (fun j => decide (fl_sb8 0 j = (Int32.toInt8 (Int32.ofNat t)).toInt32)) 8) (fl_frst (fun j => decide (fl_sb8 0 j = (Int32.toInt8 (Int32.ofNat t)).toInt32)) 8) = O at *
  have e53 : fl_cl fl_C 53 [.ref 1048592, .int (Int32.ofNat t), .int (Int32.ofNat 0), .int (Int32.ofNat 8)] h = some (some (some (.int O)), h) := by
    rw [fbE_53]
    simp (disch := omega) only [k.2, fl_lit, fl_nadd, fl_nmul, fl_ndiv, fl_nsub, fl_msub, fl_nle, fl_nlt, fl_neq, fl_nclamp, fl_nin, fl_ltT, fl_ltF, fl_leT, fl_leF, fl_eqT, fl_eqF, decide_true, decide_false, Bool.true_and, Bool.and_true, Bool.false_and, Bool.and_false, if_true, if_false, Bool.false_eq_true, Option.isSome_some, Option.getD_some, not_true_eq_false, not_false_eq_true, Option.toList_some, Option.toList_none, List.cons_append, List.nil_append, e49, fbP_53_4, e50, fbP_53_14, e51, fbP_53_21, e52, fbP_53_36]
  have e54 : fl_cl fl_C 54 [.ref 1048576, .int (Int32.ofNat t), .int (Int32.ofNat 0)] h = some (some (some (.int O)), h) := by
    rw [fbE_54, e46]
    have o : (Int32.ofNat 1 = Int32.ofNat 0) = False := eq_false (by decide)
    simp (disch := omega) only [k.1, fl_lit, fl_nadd, fl_nmul, fl_ndiv, fl_nsub, fl_msub, fl_nle, fl_nlt, fl_neq, fl_nclamp, fl_nin, fl_ltT, fl_ltF, fl_leT, fl_leF, fl_eqT, fl_eqF, decide_true, decide_false, Bool.true_and, Bool.and_true, Bool.false_and, Bool.and_false, if_true, if_false, Bool.false_eq_true, Option.isSome_some, Option.getD_some, not_true_eq_false, not_false_eq_true, Option.toList_some, Option.toList_none, List.cons_append, List.nil_append, fbP_54_4, e48, fbP_54_17, e53, fbP_54_20]
  rw [fbE_55]
  simp (disch := omega) only [k.1, fl_lit, fl_nadd, fl_nmul, fl_ndiv, fl_nsub, fl_msub, fl_nle, fl_nlt, fl_neq, fl_nclamp, fl_nin, fl_ltT, fl_ltF, fl_leT, fl_leF, fl_eqT, fl_eqF, decide_true, decide_false, Bool.true_and, Bool.and_true, Bool.false_and, Bool.and_false, if_true, if_false, Bool.false_eq_true, Option.isSome_some, Option.getD_some, not_true_eq_false, not_false_eq_true, Option.toList_some, Option.toList_none, List.cons_append, List.nil_append, e54, fbP_55_6]
/-- the sign at hand; -1 behind the text -/
def fl_sgn (tx : Nat → Nat) (tn a : Nat) : Int32 := if a < tn then Int32.ofNat (tx a) else -Int32.ofNat 1
theorem fc_42 (hg : fl_g k0 h) (iT : fl_iT h tn tx) (e3 : fl_i h 7 3 = Int32.ofNat a) (ha : a < 1000) : fl_cl fl_C 42 [.ref 7, .ref 1] h = some (some (some (.int (fl_sgn tx tn a))), h) := by
  have o7 := (fl_o7 (k0 := k0)).1
  have o1 := (fl_o1 (k0 := k0)).1
  have c1 := (fl_o1 (k0 := k0)).2.1
  have e31 := fc_31 hg iT
  have n80 := iT.1
  unfold fl_sgn
  by_cases q : a < tn
  · rw [if_pos q]
    have e24 := fc_int (fl_o1 (k0 := k0)).2 hg (show a < 80 by omega)
    rw [(iT.2.2.2.2 a q).2.2, fl_o32] at e24
    clear iT
    rw [fbE_42]
    simp (disch := omega) only [hg.1, hg.2, o7, o1, c1, fl_lit, fl_nadd, fl_nmul, fl_ndiv, fl_nsub, fl_msub, fl_nle, fl_nlt, fl_neq, fl_nclamp, fl_nin, fl_ltT, fl_ltF, fl_leT, fl_leF, fl_eqT, fl_eqF, decide_true, decide_false, Bool.true_and, Bool.and_true, Bool.false_and, Bool.and_false, if_true, if_false, Bool.false_eq_true, Option.isSome_some, Option.getD_some, not_true_eq_false, not_false_eq_true, Option.toList_some, Option.toList_none, List.cons_append, List.nil_append, e3, e31, fbP_42_8, fbE_41, e24, fbP_41_8, fbP_42_19]
  · rw [if_neg q]
    clear iT
    rw [fbE_42]
    simp (disch := omega) only [hg.1, hg.2, o7, o1, fl_lit, fl_nadd, fl_nmul, fl_ndiv, fl_nsub, fl_msub, fl_nle, fl_nlt, fl_neq, fl_nclamp, fl_nin, fl_ltT, fl_ltF, fl_leT, fl_leF, fl_eqT, fl_eqF, decide_true, decide_false, Bool.true_and, Bool.and_true, Bool.false_and, Bool.and_false, if_true, if_false, Bool.false_eq_true, Option.isSome_some, Option.getD_some, not_true_eq_false, not_false_eq_true, Option.toList_some, Option.toList_none, List.cons_append, List.nil_append, e3, e31, fbP_42_8]
theorem fc_56 (hg : fl_g k0 h) (iT : fl_iT h tn tx) (e3 : fl_i h 7 3 = Int32.ofNat a) (ha : a < 1000) : fl_cl fl_C 56 [.ref 7, .ref 1] h = some (some (some (.int (if fl_ltr tx tn a = 12 then -Int32.ofNat 1 else Int32.ofNat (fl_ltr tx tn a)))), h) := by
  have o7 := (fl_o7 (k0 := k0)).1
  have e42 := fc_42 hg iT e3 ha
  have m1 : ((-Int32.ofNat 1 - Int32.ofNat 97) < Int32.ofNat 0) = True := eq_true (by decide)
  unfold fl_sgn at e42
  by_cases q : a < tn
  · have t := (iT.2.2.2.2 a q).1
    rw [if_pos q] at e42
    by_cases r : 97 ≤ tx a
    · by_cases r2 : tx a < 109
      · have lv : fl_ltr tx tn a = tx a - 97 := by unfold fl_ltr; exact if_pos ⟨q, r, r2⟩
        rw [lv, if_neg (by omega)]
        clear iT lv
        generalize tx a = T at *
        rw [fbE_56]
        simp (disch := omega) only [hg.1, o7, fl_lit, fl_nadd, fl_nmul, fl_ndiv, fl_nsub, fl_msub, fl_nle, fl_nlt, fl_neq, fl_nclamp, fl_nin, fl_ltT, fl_ltF, fl_leT, fl_leF, fl_eqT, fl_eqF, decide_true, decide_false, Bool.true_and, Bool.and_true, Bool.false_and, Bool.and_false, if_true, if_false, Bool.false_eq_true, Option.isSome_some, Option.getD_some, not_true_eq_false, not_false_eq_true, Option.toList_some, Option.toList_none, List.cons_append, List.nil_append, e42, fbP_56_5]
      · have lv : fl_ltr tx tn a = 12 := by unfold fl_ltr; exact if_neg (fun z => r2 z.2.2)
        rw [lv, if_pos rfl]
        clear iT lv
        generalize tx a = T at *
        rw [fbE_56]
        simp (disch := omega) only [hg.1, o7, fl_lit, fl_nadd, fl_nmul, fl_ndiv, fl_nsub, fl_msub, fl_nle, fl_nlt, fl_neq, fl_nclamp, fl_nin, fl_ltT, fl_ltF, fl_leT, fl_leF, fl_eqT, fl_eqF, decide_true, decide_false, Bool.true_and, Bool.and_true, Bool.false_and, Bool.and_false, if_true, if_false, Bool.false_eq_true, Option.isSome_some, Option.getD_some, not_true_eq_false, not_false_eq_true, Option.toList_some, Option.toList_none, List.cons_append, List.nil_append, e42, fbP_56_5, fbC_56_23]
    · have lv : fl_ltr tx tn a = 12 := by unfold fl_ltr; exact if_neg (fun z => r z.2.1)
      rw [lv, if_pos rfl]
      have m2 : ∀ n, n < 97 → Int32.ofNat n - Int32.ofNat 97 < Int32.ofNat 0 := by decide +kernel
      have m3 : (Int32.ofNat (tx a) - Int32.ofNat 97 < Int32.ofNat 0) = True := eq_true (m2 _ (by omega))
      clear iT lv m2
      generalize tx a = T at *
      rw [fbE_56]
      simp (disch := omega) only [hg.1, o7, fl_lit, fl_nadd, fl_nmul, fl_ndiv, fl_nsub, fl_msub, fl_nle, fl_nlt, fl_neq, fl_nclamp, fl_nin, fl_ltT, fl_ltF, fl_leT, fl_leF, fl_eqT, fl_eqF, decide_true, decide_false, Bool.true_and, Bool.and_true, Bool.false_and, Bool.and_false, if_true, if_false, Bool.false_eq_true, Option.isSome_some, Option.getD_some, not_true_eq_false, not_false_eq_true, Option.toList_some, Option.toList_none, List.cons_append, List.nil_append, e42, fbP_56_5, m3, fbC_56_23]
  · rw [if_neg q] at e42
    have lv : fl_ltr tx tn a = 12 := by unfold fl_ltr; exact if_neg (fun z => q z.1)
    rw [lv, if_pos rfl]
    clear iT lv
    rw [fbE_56]
    simp (disch := omega) only [hg.1, o7, fl_lit, fl_nadd, fl_nmul, fl_ndiv, fl_nsub, fl_msub, fl_nle, fl_nlt, fl_neq, fl_nclamp, fl_nin, fl_ltT, fl_ltF, fl_leT, fl_leF, fl_eqT, fl_eqF, decide_true, decide_false, Bool.true_and, Bool.and_true, Bool.false_and, Bool.and_false, if_true, if_false, Bool.false_eq_true, Option.isSome_some, Option.getD_some, not_true_eq_false, not_false_eq_true, Option.toList_some, Option.toList_none, List.cons_append, List.nil_append, e42, fbP_56_5, m1, fbC_56_23]
theorem fl_ltr_le : fl_ltr tx tn a ≤ 12 := by
  unfold fl_ltr
  split <;> omega
end
