/-! THE REFERENCE, a tick -/
/-- a fault as the reference is told it -/
def fl_fi (f : Nat) : Int32 := if f < 64 then Int32.ofNat f else -1
theorem fl_fi_lt {f : Nat} (h : f < 64) : fl_fi f = Int32.ofNat f := if_pos h
theorem fl_fi_eq {f c : Nat} (hc : c < 64) : (fl_fi f = Int32.ofNat c) = (f = c) := by
  unfold fl_fi
  by_cases h : f < 64
  · rw [if_pos h, fl_neq (by omega) (by omega)]
  · rw [if_neg h]
    apply propext
    constructor
    · intro e
      have := fl_neg1 (show c < 2147483648 by omega)
      rw [eq_comm] at e
      exact absurd e (by rw [show (-1 : Int32) = -Int32.ofNat 1 from rfl, this]; exact id)
    · intro e; omega
theorem fl_fi_sub {f c z : Nat} (hc : c + z < 64) : (fl_fi f - Int32.ofNat c = Int32.ofNat z) = (f = c + z) := by
  rw [← fl_fi_eq hc, ← fl_nadd, Int32.sub_eq_iff_eq_add, Int32.add_comm]
/-- an array filled below n -/
def fl_ar (n : Nat) (f : Nat → Nat) (old : Nat → Int32) : Nat → Int32 := fun j => if j < n then Int32.ofNat (f j) else old j
theorem fl_ar_lt {n : Nat} {f : Nat → Nat} {old : Nat → Int32} {j : Nat} (h : j < n) : fl_ar n f old j = Int32.ofNat (f j) := if_pos h
theorem fl_ar_ge {n : Nat} {f : Nat → Nat} {old : Nat → Int32} {j : Nat} (h : n ≤ j) : fl_ar n f old j = old j := if_neg (by omega)
theorem fl_ar_0 {f : Nat → Nat} {old : Nat → Int32} : fl_ar 0 f old = old := by
  funext j
  exact fl_ar_ge (Nat.zero_le j)
theorem fl_ar_up {k : Nat} {f : Nat → Nat} {old : Nat → Int32} {x : Nat} : fl_up (fl_ar k f old) k (Int32.ofNat x) = fl_ar (k + 1) (fl_up f k x) old := by
  funext j
  unfold fl_up fl_ar
  dsimp only
  by_cases e : j = k
  · rw [if_pos e, if_pos (by omega), if_pos e]
  · rw [if_neg e]
    by_cases l : j < k
    · rw [if_pos l, if_pos (by omega), if_neg e]
    · rw [if_neg l, if_neg (by omega)]
theorem fl_ar_succ {k : Nat} {f : Nat → Nat} {old : Nat → Int32} : fl_up (fl_ar k f old) k (Int32.ofNat (f k)) = fl_ar (k + 1) f old := by
  rw [fl_ar_up]
  congr 1
  funext j
  by_cases e : j = k
  · rw [e]; exact fl_up_self
  · exact fl_up_ne e
theorem fr_134 {k0 : Nat → Nat × Nat} {h : fl_H} {g : Nat → Nat} (hg : fl_g k0 h) (m : fl_mm h g) (b : ∀ j, j < 126 → g j < 256) (w : g 0 ≤ 12) {p : Nat} (hp : p < 20) (f : Nat) (v : Nat → Nat) (hr : g (52 + p) < 12) (hv : fl_i h 266 (g (52 + p)) = Int32.ofNat (v (g (52 + p)))) : fl_cl fl_C 134 [.ref 259, .int (Int32.ofNat p), .int (fl_fi f)] h = some (some (some (.int (Int32.ofNat (fl_pv g f v p)))), h) := by
  have b1 := b (52 + p) (by omega)
  rw [fbE_134, fr_95 hg m, fbP_134_6]
  simp (disch := first | decide | omega) only [hg.1, hg.2, fl_KM, fl_RM, fl_lit, fl_nadd, fl_nmul, fl_ndiv, fl_nsub, fl_msub, fl_nle, fl_nlt, fl_neq, fl_nclamp, fl_nin, fl_ltT, fl_ltF, fl_leT, fl_leF, fl_eqT, fl_eqF, decide_true, decide_false, Bool.true_and, Bool.and_true, Bool.false_and, Bool.and_false, if_true, if_false, Bool.false_eq_true, Option.isSome_some, Option.getD_some, not_true_eq_false, not_false_eq_true, Option.toList_some, Option.toList_none, List.cons_append, List.nil_append, fl_fi_sub, m, fbC_134_20, fbC_134_36, fbC_134_37, hv]
  unfold fl_pv
  by_cases c0 : f = 2 * (g 0 + p)
  · have e : fl_fi f - Int32.ofNat (2 * (g 0 + p)) = Int32.ofNat 0 := (fl_fi_sub (by omega)).mpr (by omega)
    simp (disch := first | decide | omega) only [e, fl_lit, fl_nadd, fl_nmul, fl_ndiv, fl_nsub, fl_msub, fl_nle, fl_nlt, fl_neq, fl_nclamp, fl_nin, fl_ltT, fl_ltF, fl_leT, fl_leF, fl_eqT, fl_eqF, decide_true, decide_false, Bool.true_and, Bool.and_true, Bool.false_and, Bool.and_false, if_true, if_false, Bool.false_eq_true, Option.isSome_some, Option.getD_some, not_true_eq_false, not_false_eq_true, Option.toList_some, Option.toList_none, List.cons_append, List.nil_append, eq_true c0, Nat.add_zero]
  · by_cases c1 : f = 2 * (g 0 + p) + 1
    · have e : fl_fi f - Int32.ofNat (2 * (g 0 + p)) = Int32.ofNat 1 := (fl_fi_sub (by omega)).mpr (by omega)
      simp (disch := first | decide | omega) only [e, fl_lit, fl_nadd, fl_nmul, fl_ndiv, fl_nsub, fl_msub, fl_nle, fl_nlt, fl_neq, fl_nclamp, fl_nin, fl_ltT, fl_ltF, fl_leT, fl_leF, fl_eqT, fl_eqF, decide_true, decide_false, Bool.true_and, Bool.and_true, Bool.false_and, Bool.and_false, if_true, if_false, Bool.false_eq_true, Option.isSome_some, Option.getD_some, not_true_eq_false, not_false_eq_true, Option.toList_some, Option.toList_none, List.cons_append, List.nil_append, eq_false c0, eq_true c1, Nat.add_zero]
    · simp (disch := first | decide | omega) only [fl_lit, fl_nadd, fl_nmul, fl_ndiv, fl_nsub, fl_msub, fl_nle, fl_nlt, fl_neq, fl_nclamp, fl_nin, fl_ltT, fl_ltF, fl_leT, fl_leF, fl_eqT, fl_eqF, decide_true, decide_false, Bool.true_and, Bool.and_true, Bool.false_and, Bool.and_false, if_true, if_false, Bool.false_eq_true, Option.isSome_some, Option.getD_some, not_true_eq_false, not_false_eq_true, Option.toList_some, Option.toList_none, List.cons_append, List.nil_append, c0, c1, Nat.add_zero]
