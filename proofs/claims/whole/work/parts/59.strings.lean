/-! STRINGS -/
def fl_sb8 (i j : Nat) : Int32 := (fl_sbyt.getD i []).getD j 0
def fl_sl8 (i : Nat) : Nat := fl_slen.getD i 0
abbrev fl_sk (k0 : Nat → Nat × Nat) (i0 : Nat → Nat → Int32) : Prop := ∀ i, i < 7 → k0 (1048576 + i) = (7, i) ∧ k0 (1048592 + i) = (5, fl_sl8 i) ∧ i0 (1048592 + i) = fl_sb8 i
theorem fl_findN {β : Type} (F T : Nat → β) (q : Nat → Bool) (n : Nat) (hs : ∀ k, k < n → F k = if q k = true then T k else F (k + 1)) : F 0 = if fl_any q n = true then T (fl_frst q n) else F n := by
  induction n with
  | zero => rfl
  | succ n ih =>
    rw [ih (fun k hk => hs k (by omega)), hs n (by omega), fl_any, fl_frst]
    cases fl_any q n with
    | true => rfl
    | false => cases q n <;> rfl
theorem fl_sb8_ok : ∀ i, i < 7 → ∀ j, j < 12 → (Int32.toUInt32 ((Int32.toUInt32 ((fl_sb8 i j) &&& 255) % 65536).toInt32) % 65536).toInt32 = ((Int32.toUInt32 ((fl_sb8 i j) &&& 255) % 65536).toInt32) ∧ (Int32.toUInt32 ((fl_sb8 i j) &&& 255) % 65536).toInt32 = fl_sb8 i j ∧ (Int32.toUInt32 (fl_sb8 i j) % 65536).toInt32 = fl_sb8 i j := by decide
theorem fl_sl8_ok : ∀ i, i < 7 → fl_sl8 i ≤ 12 := by decide
section
variable {k0 : Nat → Nat × Nat} {i0 : Nat → Nat → Int32} {h : fl_H}
theorem fl_k7 (sk : fl_sk k0 i0) (hg : fl_g k0 h) {i : Nat} (hi : i < 7) : fl_k h (1048576 + i) = (7, i) ∧ fl_k h (1048576 + i + 16) = (5, fl_sl8 i) := by
  rw [hg.1, show 1048576 + i + 16 = 1048592 + i by omega]
  unfold fl_KK
  rw [if_neg (by omega), if_neg (by omega)]
  exact ⟨(sk i hi).1, (sk i hi).2.1⟩
theorem fl_i5 (sk : fl_sk k0 i0) (hs : fl_st k0 i0 h) {i : Nat} (hi : i < 7) : fl_i h (1048576 + i + 16) = fl_sb8 i := by
  rw [show 1048576 + i + 16 = 1048592 + i by omega, hs (1048592 + i) (by omega) (by rw [(sk i hi).2.1]; exact Nat.le_refl 5)]
  exact (sk i hi).2.2
theorem fr_48 (sk : fl_sk k0 i0) (hg : fl_g k0 h) {i : Nat} (hi : i < 7) : fl_cl fl_C 48 [.ref (1048576 + i)] h = some (some (some (.int (Int32.ofNat (fl_sl8 i)))), h) := by
  have k := fl_k7 sk hg hi
  have e0 : ((1 : Int32) = 0) = False := eq_false (by decide)
  have e1 : ((Int32.toInt8 0).toInt32 = 0) = True := eq_true (by decide)
  have e2 : (Int32.ofNat (fl_sl8 i)) >>> ((0 : Int32) &&& 31) = Int32.ofNat (fl_sl8 i) := by
    rcases (show i = 0 ∨ i = 1 ∨ i = 2 ∨ i = 3 ∨ i = 4 ∨ i = 5 ∨ i = 6 by omega) with e | e | e | e | e | e | e <;> subst e <;> decide
  have e47 : fl_cl fl_C 47 [.ref (1048576 + i)] h = some (some (some (.int 0)), h) := by
    rw [fbE_47]
    simp only [e0, e1, k.1, decide_true, decide_false, if_true, if_false, Bool.false_eq_true]
  rw [fbE_48]
  simp only [k.1, k.2, decide_true, if_true, Bool.and_true, e47, fbP_48_9, e2]
theorem fr_76 (sk : fl_sk k0 i0) (hg : fl_g k0 h) (hs : fl_st k0 i0 h) {i j : Nat} (hi : i < 7) (hj : j < fl_sl8 i) : fl_cl fl_C 76 [.ref (1048576 + i), .int (Int32.ofNat j)] h = some (some (some (.int (fl_sb8 i j))), h) := by
  have k := fl_k7 sk hg hi
  have c := fl_i5 sk hs hi
  have l := fl_sl8_ok i hi
  have b := fl_sb8_ok i hi j (by omega)
  have e0 : ((1 : Int32) = 0) = False := eq_false (by decide)
  have e00 : (¬ (0 : Int32) = 0) = False := eq_false (by decide)
  have e46 : fl_cl fl_C 46 [.ref (1048576 + i)] h = some (some (some (.int 1)), h) := by
    rw [fbE_46]
    simp only [e0, e00, k.1, not_true_eq_false, decide_true, decide_false, if_true, if_false, Bool.false_eq_true]
  have e73 : fl_cl fl_C 73 [.int (Int32.ofNat j), .int (Int32.ofNat (fl_sl8 i)), .retAddr 0] h = some (some (some (.int (Int32.ofNat j))), h) := by
    rw [fbE_73]
    simp (disch := omega) only [fl_lit, fl_nadd, fl_nmul, fl_ndiv, fl_nsub, fl_msub, fl_nle, fl_nlt, fl_neq, fl_nclamp, fl_nin, fl_ltT, fl_ltF, fl_leT, fl_leF, fl_eqT, fl_eqF, decide_true, decide_false, Bool.true_and, Bool.and_true, Bool.false_and, Bool.and_false, if_true, if_false, Bool.false_eq_true, Option.isSome_some, Option.getD_some, not_true_eq_false, not_false_eq_true, Option.toList_some, Option.toList_none, List.cons_append, List.nil_append]
  have e75 : fl_cl fl_C 75 [.ref (1048576 + i + 16), .int (Int32.ofNat j)] h = some (some (some (.int (fl_sb8 i j))), h) := by
    rw [fbE_75]
    simp (disch := omega) only [k.2, decide_true, if_true, fbE_74, e73, fbP_74_8, fbP_75_6, c, fl_nclamp, fl_nin, b.1]
    simp (disch := omega) only [fl_nin, decide_eq_true hj, Bool.and_true, if_true, b.2.1]
  rw [fbE_76]
  simp (disch := omega) only [k.1, e46, fbP_76_4, e0, e75, fbP_76_15, b.2.2, decide_true, decide_false, if_true, if_false, Bool.and_true, Bool.false_eq_true]
/-- the place of a sign in a string -/
theorem fr_77 (sk : fl_sk k0 i0) (hg : fl_g k0 h) (hs : fl_st k0 i0 h) {i : Nat} (hi : i < 7) (x : Int32) : fl_cl fl_C 77 [.ref (1048576 + i), .int x] h = some (some (some (.int (fl_oi (fl_any (fun j => decide (fl_sb8 i j = x)) (fl_sl8 i)) (fl_frst (fun j => decide (fl_sb8 i j = x)) (fl_sl8 i))))), h) := by
  have k := fl_k7 sk hg hi
  have l := fl_sl8_ok i hi
  have e48 := fr_48 sk hg hi
  have lp := fl_findN (fun j => fl_Rn fl_C 77 2 [some (.ref (1048576 + i)), some (.int x), some (.int (Int32.ofNat j))] [] h) (fun j => some (some (some (.int (Int32.ofNat j))), h)) (fun j => decide (fl_sb8 i j = x)) (fl_sl8 i) (by
    intro j hj
    have e76 := fr_76 sk hg hs hi hj
    try dsimp only
    rw [fbC_77_2]
    simp (disch := omega) only [k.1, fl_lit, fl_nadd, fl_nmul, fl_ndiv, fl_nsub, fl_msub, fl_nle, fl_nlt, fl_neq, fl_nclamp, fl_nin, fl_ltT, fl_ltF, fl_leT, fl_leF, fl_eqT, fl_eqF, decide_true, decide_false, Bool.true_and, Bool.and_true, Bool.false_and, Bool.and_false, if_true, if_false, Bool.false_eq_true, Option.isSome_some, Option.getD_some, not_true_eq_false, not_false_eq_true, Option.toList_some, Option.toList_none, List.cons_append, List.nil_append, e48, fbP_77_7, e76, fbP_77_15]
    by_cases c : fl_sb8 i j = x
    · simp [c]
    · simp [c])
  have fin : fl_Rn fl_C 77 2 [some (.ref (1048576 + i)), some (.int x), some (.int (Int32.ofNat (fl_sl8 i)))] [] h = some (some (some (.int (-Int32.ofNat 1))), h) := by
    rw [fbC_77_2]
    simp (disch := omega) only [k.1, fl_lit, fl_nadd, fl_nmul, fl_ndiv, fl_nsub, fl_msub, fl_nle, fl_nlt, fl_neq, fl_nclamp, fl_nin, fl_ltT, fl_ltF, fl_leT, fl_leF, fl_eqT, fl_eqF, decide_true, decide_false, Bool.true_and, Bool.and_true, Bool.false_and, Bool.and_false, if_true, if_false, Bool.false_eq_true, Option.isSome_some, Option.getD_some, not_true_eq_false, not_false_eq_true, Option.toList_some, Option.toList_none, List.cons_append, List.nil_append, e48, fbP_77_7]
  try dsimp only at lp
  rw [fbE_77]
  refine lp.trans ?_
  rw [fin]
  unfold fl_oi
  cases fl_any (fun j => decide (fl_sb8 i j = x)) (fl_sl8 i) <;> rfl
end
