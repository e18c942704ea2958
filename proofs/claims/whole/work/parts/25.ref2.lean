/-! THE REFERENCE, a tick -/
/-- a fault as the reference is told it -/
def fl_fi (f : Nat) : Int32 := if f < 64 then Int32.ofNat f else -1
theorem fl_fi_lt {f : Nat} (h : f < 64) : fl_fi f = Int32.ofNat f := if_pos h
theorem fl_fi_eq {f c : Nat} (hc : c < 64) : (fl_fi f = Int32.ofNat c) = (f = c) := by
  unfold fl_fi
  by_cases h : f < 64
  · rw [if_pos h, fl_neq (by omega) (by omega)]
  · rw [if_neg h]
    apply propext
    constructor
    · intro e
      have := fl_neg1 (show c < 2147483648 by omega)
      rw [eq_comm] at e
      exact absurd e (by rw [show (-1 : Int32) = -Int32.ofNat 1 from rfl, this]; exact id)
    · intro e; omega
theorem fl_fi_sub {f c z : Nat} (hc : c + z < 64) : (fl_fi f - Int32.ofNat c = Int32.ofNat z) = (f = c + z) := by
  rw [← fl_fi_eq hc, ← fl_nadd, Int32.sub_eq_iff_eq_add, Int32.add_comm]
/-- an array filled below n -/
def fl_ar (n : Nat) (f : Nat → Nat) (old : Nat → Int32) : Nat → Int32 := fun j => if j < n then Int32.ofNat (f j) else old j
theorem fl_ar_lt {n : Nat} {f : Nat → Nat} {old : Nat → Int32} {j : Nat} (h : j < n) : fl_ar n f old j = Int32.ofNat (f j) := if_pos h
theorem fl_ar_ge {n : Nat} {f : Nat → Nat} {old : Nat → Int32} {j : Nat} (h : n ≤ j) : fl_ar n f old j = old j := if_neg (by omega)
theorem fl_ar_0 {f : Nat → Nat} {old : Nat → Int32} : fl_ar 0 f old = old := by
  funext j
  exact fl_ar_ge (Nat.zero_le j)
theorem fl_ar_up {k : Nat} {f : Nat → Nat} {old : Nat → Int32} {x : Nat} : fl_up (fl_ar k f old) k (Int32.ofNat x) = fl_ar (k + 1) (fl_up f k x) old := by
  funext j
  unfold fl_up fl_ar
  dsimp only
  by_cases e : j = k
  · rw [if_pos e, if_pos (by omega), if_pos e]
  · rw [if_neg e]
    by_cases l : j < k
    · rw [if_pos l, if_pos (by omega), if_neg e]
    · rw [if_neg l, if_neg (by omega)]
theorem fl_ar_succ {k : Nat} {f : Nat → Nat} {old : Nat → Int32} : fl_up (fl_ar k f old) k (Int32.ofNat (f k)) = fl_ar (k + 1) f old := by
  rw [fl_ar_up]
  congr 1
  funext j
  by_cases e : j = k
  · rw [e]; exact fl_up_self
  · exact fl_up_ne e
theorem fl_inp : ∀ pt, pt < 256 → ∀ k, k < 4 → (Int32.ofNat pt >>> (Int32.ofNat (2 * k) &&& Int32.ofNat 31)) &&& Int32.ofNat 3 = Int32.ofNat (pt / 4 ^ k % 4) := by decide +kernel
theorem fr_134 {k0 : Nat → Nat × Nat} {h : fl_H} {g : Nat → Nat} (hg : fl_g k0 h) (m : fl_mm h g) (b : ∀ j, j < 126 → g j < 256) (w : g 0 ≤ 12) {p : Nat} (hp : p < 20) (f : Nat) (v : Nat → Nat) (hr : g (52 + p) < 12) (hv : fl_i h 266 (g (52 + p)) = Int32.ofNat (v (g (52 + p)))) : fl_cl fl_C 134 [.ref 259, .int (Int32.ofNat p), .int (fl_fi f)] h = some (some (some (.int (Int32.ofNat (fl_pv g f v p)))), h) := by
  have b1 := b (52 + p) (by omega)
  rw [fbE_134, fr_95 hg m, fbP_134_6]
  simp (disch := omega) only [hg.1, hg.2, fl_KM, fl_RM, fl_lit, fl_nadd, fl_nmul, fl_ndiv, fl_nsub, fl_msub, fl_nle, fl_nlt, fl_neq, fl_nclamp, fl_nin, fl_ltT, fl_ltF, fl_leT, fl_leF, fl_eqT, fl_eqF, decide_true, decide_false, Bool.true_and, Bool.and_true, Bool.false_and, Bool.and_false, if_true, if_false, Bool.false_eq_true, Option.isSome_some, Option.getD_some, not_true_eq_false, not_false_eq_true, Option.toList_some, Option.toList_none, List.cons_append, List.nil_append, fl_fi_sub, m, fbC_134_20, fbC_134_36, fbC_134_37, hv]
  unfold fl_pv
  by_cases c0 : f = 2 * (g 0 + p)
  · have e : fl_fi f - Int32.ofNat (2 * (g 0 + p)) = Int32.ofNat 0 := (fl_fi_sub (by omega)).mpr (by omega)
    simp (disch := omega) only [e, fl_lit, fl_nadd, fl_nmul, fl_ndiv, fl_nsub, fl_msub, fl_nle, fl_nlt, fl_neq, fl_nclamp, fl_nin, fl_ltT, fl_ltF, fl_leT, fl_leF, fl_eqT, fl_eqF, decide_true, decide_false, Bool.true_and, Bool.and_true, Bool.false_and, Bool.and_false, if_true, if_false, Bool.false_eq_true, Option.isSome_some, Option.getD_some, not_true_eq_false, not_false_eq_true, Option.toList_some, Option.toList_none, List.cons_append, List.nil_append, eq_true c0, Nat.add_zero]
  · by_cases c1 : f = 2 * (g 0 + p) + 1
    · have e : fl_fi f - Int32.ofNat (2 * (g 0 + p)) = Int32.ofNat 1 := (fl_fi_sub (by omega)).mpr (by omega)
      simp (disch := omega) only [e, fl_lit, fl_nadd, fl_nmul, fl_ndiv, fl_nsub, fl_msub, fl_nle, fl_nlt, fl_neq, fl_nclamp, fl_nin, fl_ltT, fl_ltF, fl_leT, fl_leF, fl_eqT, fl_eqF, decide_true, decide_false, Bool.true_and, Bool.and_true, Bool.false_and, Bool.and_false, if_true, if_false, Bool.false_eq_true, Option.isSome_some, Option.getD_some, not_true_eq_false, not_false_eq_true, Option.toList_some, Option.toList_none, List.cons_append, List.nil_append, eq_false c0, eq_true c1, Nat.add_zero]
    · simp (disch := omega) only [fl_lit, fl_nadd, fl_nmul, fl_ndiv, fl_nsub, fl_msub, fl_nle, fl_nlt, fl_neq, fl_nclamp, fl_nin, fl_ltT, fl_ltF, fl_leT, fl_leF, fl_eqT, fl_eqF, decide_true, decide_false, Bool.true_and, Bool.and_true, Bool.false_and, Bool.and_false, if_true, if_false, Bool.false_eq_true, Option.isSome_some, Option.getD_some, not_true_eq_false, not_false_eq_true, Option.toList_some, Option.toList_none, List.cons_append, List.nil_append, c0, c1, Nat.add_zero]
/-- the pins of a gate -/
theorem fr_135 {k0 : Nat → Nat × Nat} {h : fl_H} {g : Nat → Nat} (hg : fl_g k0 h) (m : fl_mm h g) (b : ∀ j, j < 126 → g j < 256) (w : g 0 ≤ 12) {k : Nat} (hk : k < 12) (hs : 1 ≤ g (4 + k) ∧ g (4 + k) ≤ 8) (hw : g (16 + k) + g (28 + k) ≤ 20) (hw3 : g (28 + k) ≤ 3) (f : Nat) (v : Nat → Nat) (hr : ∀ i, i < g (28 + k) → g (52 + (g (16 + k) + i)) < 12 ∧ fl_i h 266 (g (52 + (g (16 + k) + i))) = Int32.ofNat (v (g (52 + (g (16 + k) + i)))) ∧ v (g (52 + (g (16 + k) + i))) ≤ 2) : fl_cl fl_C 135 [.ref 259, .int (Int32.ofNat k), .int (fl_fi f)] h = some (some (some (.int (Int32.ofNat (fl_gt g f v k)))), h) := by
  have b1 := b (16 + k) (by omega)
  have b2 := b (28 + k) (by omega)
  have b3 := b (4 + k) (by omega)
  have lp := fl_iter (fun i => fl_Rn fl_C 135 30 [some (.ref 259), some (.int (Int32.ofNat k)), some (.int (fl_fi f)), some (.int (Int32.ofNat (g (16 + k)))), some (.int (Int32.ofNat (g (28 + k)))), some (.int (Int32.ofNat (fl_gn g f v k 0 i))), some (.int (Int32.ofNat (fl_gn g f v k 1 i))), some (.int (Int32.ofNat (g (16 + k) + i)))] [] h) (g (28 + k)) (by
    intro i hi
    obtain ⟨r1, r2, r3⟩ := hr i hi
    have q : fl_pv g f v (g (16 + k) + i) ≤ 2 := fl_pv_le r3
    try dsimp only
    rw [fbC_135_30]
    have e := fr_134 hg m b w (show g (16 + k) + i < 20 by omega) f v r1 r2
    simp (disch := omega) only [hg.1, hg.2, fl_KM, fl_RM, fl_lit, fl_nadd, fl_nmul, fl_ndiv, fl_nsub, fl_msub, fl_nle, fl_nlt, fl_neq, fl_nclamp, fl_nin, fl_ltT, fl_ltF, fl_leT, fl_leF, fl_eqT, fl_eqF, decide_true, decide_false, Bool.true_and, Bool.and_true, Bool.false_and, Bool.and_false, if_true, if_false, Bool.false_eq_true, Option.isSome_some, Option.getD_some, not_true_eq_false, not_false_eq_true, Option.toList_some, Option.toList_none, List.cons_append, List.nil_append, e, fbP_135_46, fl_gn_succ]
    by_cases c0 : fl_pv g f v (g (16 + k) + i) = 0
    · simp (disch := omega) only [c0, fl_lit, fl_nadd, fl_nmul, fl_ndiv, fl_nsub, fl_msub, fl_nle, fl_nlt, fl_neq, fl_nclamp, fl_nin, fl_ltT, fl_ltF, fl_leT, fl_leF, fl_eqT, fl_eqF, decide_true, decide_false, Bool.true_and, Bool.and_true, Bool.false_and, Bool.and_false, if_true, if_false, Bool.false_eq_true, Option.isSome_some, Option.getD_some, not_true_eq_false, not_false_eq_true, Option.toList_some, Option.toList_none, List.cons_append, List.nil_append, fr_79, fbP_135_63, fbP_135_82, Bool.toNat_true, Bool.toNat_false, Nat.add_assoc]
    · by_cases c1 : fl_pv g f v (g (16 + k) + i) = 1
      · simp (disch := omega) only [c1, fl_lit, fl_nadd, fl_nmul, fl_ndiv, fl_nsub, fl_msub, fl_nle, fl_nlt, fl_neq, fl_nclamp, fl_nin, fl_ltT, fl_ltF, fl_leT, fl_leF, fl_eqT, fl_eqF, decide_true, decide_false, Bool.true_and, Bool.and_true, Bool.false_and, Bool.and_false, if_true, if_false, Bool.false_eq_true, Option.isSome_some, Option.getD_some, not_true_eq_false, not_false_eq_true, Option.toList_some, Option.toList_none, List.cons_append, List.nil_append, fr_79, fbP_135_63, fbP_135_82, Bool.toNat_true, Bool.toNat_false, Nat.add_assoc]
      · simp (disch := omega) only [c0, c1, fl_lit, fl_nadd, fl_nmul, fl_ndiv, fl_nsub, fl_msub, fl_nle, fl_nlt, fl_neq, fl_nclamp, fl_nin, fl_ltT, fl_ltF, fl_leT, fl_leF, fl_eqT, fl_eqF, decide_true, decide_false, Bool.true_and, Bool.and_true, Bool.false_and, Bool.and_false, if_true, if_false, Bool.false_eq_true, Option.isSome_some, Option.getD_some, not_true_eq_false, not_false_eq_true, Option.toList_some, Option.toList_none, List.cons_append, List.nil_append, fr_79, fbP_135_63, fbP_135_82, Bool.toNat_true, Bool.toNat_false, Nat.add_assoc])
  have hsum := fl_gn_le (g := g) (f := f) (v := v) (k := k) (g (28 + k))
  have st2 : ∀ x, x ≤ 2 → fl_Rn fl_C 135 215 [some (.ref 259), some (.int (Int32.ofNat k)), none, none, none, none, none, none, some (.int (Int32.ofNat x))] [] h = some (some (some (.int (Int32.ofNat (fl_gx (g (4 + k)) x)))), h) := by
    intro x hx
    rw [fbC_135_215, fbC_135_222, fbC_135_245, fbC_135_258]
    unfold fl_gx
    by_cases c : x < 2
    · simp (disch := omega) only [hg.1, hg.2, fl_KM, fl_RM, fl_lit, fl_nadd, fl_nmul, fl_ndiv, fl_nsub, fl_msub, fl_nle, fl_nlt, fl_neq, fl_nclamp, fl_nin, fl_ltT, fl_ltF, fl_leT, fl_leF, fl_eqT, fl_eqF, decide_true, decide_false, Bool.true_and, Bool.and_true, Bool.false_and, Bool.and_false, if_true, if_false, Bool.false_eq_true, Option.isSome_some, Option.getD_some, not_true_eq_false, not_false_eq_true, Option.toList_some, Option.toList_none, List.cons_append, List.nil_append, m, and_true]
      by_cases e1 : g (4 + k) = 1
      · simp [e1]
      · by_cases e6 : g (4 + k) = 6
        · simp [e6]
        · by_cases e7 : g (4 + k) = 7
          · simp [e7]
          · simp [e1, e6, e7]
    · simp (disch := omega) only [hg.1, hg.2, fl_KM, fl_RM, fl_lit, fl_nadd, fl_nmul, fl_ndiv, fl_nsub, fl_msub, fl_nle, fl_nlt, fl_neq, fl_nclamp, fl_nin, fl_ltT, fl_ltF, fl_leT, fl_leF, fl_eqT, fl_eqF, decide_true, decide_false, Bool.true_and, Bool.and_true, Bool.false_and, Bool.and_false, if_true, if_false, Bool.false_eq_true, Option.isSome_some, Option.getD_some, not_true_eq_false, not_false_eq_true, Option.toList_some, Option.toList_none, List.cons_append, List.nil_append, m, and_false]
      (repeat' split) <;> rfl
  have st1 : ∀ a b : Nat, a + b ≤ 3 → fl_Rn fl_C 135 115 [some (.ref 259), some (.int (Int32.ofNat k)), none, none, none, some (.int (Int32.ofNat a)), some (.int (Int32.ofNat b)), some (.int (if a + b = g (28 + k) then Int32.ofNat 1 else Int32.ofNat 0))] [.int (Int32.ofNat (4 + k)), .ref 262] h = some (some (some (.int (Int32.ofNat (fl_gx (g (4 + k)) (fl_gr (g (4 + k)) (g (28 + k)) a b))))), h) := by
    intro a b hab
    rw [fbC_135_115, fbC_135_152, fbC_135_176, fbC_135_200, ← st2 _ (fl_gr_le _ _ _ _)]
    simp (disch := omega) only [hg.1, hg.2, fl_KM, fl_RM, fl_lit, fl_nadd, fl_nmul, fl_ndiv, fl_nsub, fl_msub, fl_nle, fl_nlt, fl_neq, fl_nclamp, fl_nin, fl_ltT, fl_ltF, fl_leT, fl_leF, fl_eqT, fl_eqF, decide_true, decide_false, Bool.true_and, Bool.and_true, Bool.false_and, Bool.and_false, if_true, if_false, Bool.false_eq_true, Option.isSome_some, Option.getD_some, not_true_eq_false, not_false_eq_true, Option.toList_some, Option.toList_none, List.cons_append, List.nil_append, m]
    unfold fl_gr
    rcases (show g (4 + k) = 1 ∨ g (4 + k) = 2 ∨ g (4 + k) = 3 ∨ g (4 + k) = 4 ∨ g (4 + k) = 5 ∨ g (4 + k) = 6 ∨ g (4 + k) = 7 ∨ g (4 + k) = 8 by omega) with e | e | e | e | e | e | e | e <;> simp [e] <;> (repeat' split) <;> first | rfl | omega | simp_all
  rw [fbE_135, fbC_135_8, fbC_135_18]
  simp (disch := omega) only [hg.1, hg.2, fl_KM, fl_RM, fl_lit, fl_nadd, fl_nmul, fl_ndiv, fl_nsub, fl_msub, fl_nle, fl_nlt, fl_neq, fl_nclamp, fl_nin, fl_ltT, fl_ltF, fl_leT, fl_leF, fl_eqT, fl_eqF, decide_true, decide_false, Bool.true_and, Bool.and_true, Bool.false_and, Bool.and_false, if_true, if_false, Bool.false_eq_true, Option.isSome_some, Option.getD_some, not_true_eq_false, not_false_eq_true, Option.toList_some, Option.toList_none, List.cons_append, List.nil_append, m]
  refine lp.trans ?_
  try dsimp only
  rw [fbC_135_30]
  have hh := st1 _ _ (show fl_gn g f v k 0 (g (28 + k)) + fl_gn g f v k 1 (g (28 + k)) ≤ 3 by omega)
  by_cases c : fl_gn g f v k 0 (g (28 + k)) + fl_gn g f v k 1 (g (28 + k)) = g (28 + k)
  · rw [if_pos c] at hh
    simp (disch := omega) only [hg.1, hg.2, fl_KM, fl_RM, fl_lit, fl_nadd, fl_nmul, fl_ndiv, fl_nsub, fl_msub, fl_nle, fl_nlt, fl_neq, fl_nclamp, fl_nin, fl_ltT, fl_ltF, fl_leT, fl_leF, fl_eqT, fl_eqF, decide_true, decide_false, Bool.true_and, Bool.and_true, Bool.false_and, Bool.and_false, if_true, if_false, Bool.false_eq_true, Option.isSome_some, Option.getD_some, not_true_eq_false, not_false_eq_true, Option.toList_some, Option.toList_none, List.cons_append, List.nil_append, m, hh]
    rfl
  · rw [if_neg c] at hh
    simp (disch := omega) only [hg.1, hg.2, fl_KM, fl_RM, fl_lit, fl_nadd, fl_nmul, fl_ndiv, fl_nsub, fl_msub, fl_nle, fl_nlt, fl_neq, fl_nclamp, fl_nin, fl_ltT, fl_ltF, fl_leT, fl_leF, fl_eqT, fl_eqF, decide_true, decide_false, Bool.true_and, Bool.and_true, Bool.false_and, Bool.and_false, if_true, if_false, Bool.false_eq_true, Option.isSome_some, Option.getD_some, not_true_eq_false, not_false_eq_true, Option.toList_some, Option.toList_none, List.cons_append, List.nil_append, m, hh]
    rfl
