/-! WHAT THE CONSTRUCTORS MAKE -/
/-- ints of new cells: a pile's room -/
def fl_J (q j : Nat) : Int32 := if j = 1 then (if q = 1 then Int32.ofNat 80 else if q = 4 then Int32.ofNat 6 else if q = 21 ∨ q = 24 then Int32.ofNat 4 else Int32.ofNat 0) else Int32.ofNat 0
/-- m cells made, from n on -/
def fl_cn (k0 : Nat → Nat × Nat) (h H : fl_H) (n m sl : Nat) : Prop := H.1 = (n + m, h.1.2.1 + m, h.1.2.2.1 + sl, true) ∧ (∀ q, fl_k H q = if n ≤ q ∧ q < n + m then fl_KK k0 q else fl_k h q) ∧ (∀ q j, fl_r H q j = if n ≤ q ∧ q < n + m then fl_RR q j else fl_r h q j) ∧ (∀ q j, fl_i H q j = if n ≤ q ∧ q < n + m then fl_J q j else fl_i h q j) ∧ ∀ q j, fl_l H q j = if n ≤ q ∧ q < n + m then 0 else fl_l h q j
section
variable {k0 : Nat → Nat × Nat} {h : fl_H} {n : Nat}
theorem fl_k_mk {kd : Nat × Nat} {f q : Nat} : fl_k (fl_mk h kd f) q = if q = h.1.1 then kd else fl_k h q := rfl
theorem fl_r_mk {kd : Nat × Nat} {f q j : Nat} : fl_r (fl_mk h kd f) q j = if q = h.1.1 then none else fl_r h q j := rfl
theorem fl_i_mk {kd : Nat × Nat} {f q j : Nat} : fl_i (fl_mk h kd f) q j = if q = h.1.1 then 0 else fl_i h q j := rfl
theorem fl_l_mk {kd : Nat × Nat} {f q j : Nat} : fl_l (fl_mk h kd f) q j = if q = h.1.1 then 0 else fl_l h q j := rfl
theorem fl_1_mk {kd : Nat × Nat} {f : Nat} : (fl_mk h kd f).1 = (h.1.1 + 1, h.1.2.1 + 1, h.1.2.2.1 + f, h.1.2.2.2) := rfl
theorem fn_r_sr {a j x q i : Nat} : fl_r (fl_sr h a j x) q i = if q = a ∧ i = j then some x else fl_r h q i := rfl
/-- Cells -/
theorem fn_10 {a b sz : Nat} (h1 : h.1 = (n, a, b, true)) (hn : n < 1000) (hz : sz < 100000) (K0 : fl_KK k0 n = (1, 1)) (K1 : fl_KK k0 (n + 1) = (3, sz)) (R0 : ∀ j, fl_RR n j = if j = 0 then some (n + 1) else none) (R1 : ∀ j, fl_RR (n + 1) j = none) (J0 : ∀ j, fl_J n j = 0) (J1 : ∀ j, fl_J (n + 1) j = 0) : ∃ H, fl_cl fl_C 10 [.ref n, .int (Int32.ofNat sz)] (fl_mk h (1, 1) 1) = some (some none, H) ∧ fl_cn k0 h H n 2 (1 + sz) := by
  have h11 : h.1.1 = n := by rw [h1]
  have e1 : (fl_mk h (1, 1) 1).1 = (n + 1, a + 1, b + 1, true) := by rw [fl_1_mk, h1]
  have e2 : (fl_mk (fl_mk h (1, 1) 1) (3, sz) sz).1 = (n + 1 + 1, a + 1 + 1, b + 1 + sz, true) := by rw [fl_1_mk, e1]
  have k2 : fl_k (fl_mk (fl_mk h (1, 1) 1) (3, sz) sz) n = (1, 1) := by rw [fl_k_mk, e1, if_neg (by dsimp only; omega), fl_k_mk, h11, if_pos rfl]
  refine ⟨fl_sr (fl_mk (fl_mk h (1, 1) 1) (3, sz) sz) n 0 (n + 1), ?_, ?_⟩
  · rw [fbE_10]
    simp (disch := omega) only [e1, e2, k2, fl_lit, fl_nadd, fl_nmul, fl_ndiv, fl_nsub, fl_msub, fl_nle, fl_nlt, fl_neq, fl_nclamp, fl_nin, fl_ltT, fl_ltF, fl_leT, fl_leF, fl_eqT, fl_eqF, decide_true, decide_false, Bool.true_and, Bool.and_true, Bool.false_and, Bool.and_false, if_true, if_false, Bool.false_eq_true, Option.isSome_some, Option.getD_some, not_true_eq_false, not_false_eq_true, Option.toList_some, Option.toList_none, List.cons_append, List.nil_append, fbC_10_19]
  · refine ⟨?_, fun q => ?_, fun q j => ?_, fun q j => ?_, fun q j => ?_⟩
    · show (fl_mk (fl_mk h (1, 1) 1) (3, sz) sz).1 = _
      rw [e2, h1]
      simp only [Nat.add_assoc]
    · show fl_k (fl_mk (fl_mk h (1, 1) 1) (3, sz) sz) q = _
      rw [fl_k_mk, e1, fl_k_mk, h11]
      dsimp only
      by_cases q1 : q = n + 1
      · rw [if_pos q1, if_pos (by omega), q1, K1]
      · rw [if_neg q1]
        by_cases q0 : q = n
        · rw [if_pos q0, if_pos (by omega), q0, K0]
        · rw [if_neg q0, if_neg (by omega)]
    · rw [fn_r_sr, fl_r_mk, e1, fl_r_mk, h11]
      dsimp only
      by_cases q1 : q = n + 1
      · rw [if_neg (by omega), if_pos q1, if_pos (by omega), q1, R1]
      · by_cases q0 : q = n
        · rw [if_pos (show n ≤ q ∧ q < n + 2 by omega), q0, R0]
          by_cases j0 : j = 0
          · rw [if_pos ⟨rfl, j0⟩, if_pos j0]
          · rw [if_neg (fun z => j0 z.2), if_neg (by omega), if_pos rfl, if_neg j0]
        · rw [if_neg (fun z => q0 z.1), if_neg q1, if_neg q0, if_neg (by omega)]
    · show fl_i (fl_mk (fl_mk h (1, 1) 1) (3, sz) sz) q j = _
      rw [fl_i_mk, e1, fl_i_mk, h11]
      dsimp only
      by_cases q1 : q = n + 1
      · rw [if_pos q1, if_pos (by omega), q1, J1]
      · rw [if_neg q1]
        by_cases q0 : q = n
        · rw [if_pos q0, if_pos (by omega), q0, J0]
        · rw [if_neg q0, if_neg (by omega)]
    · show fl_l (fl_mk (fl_mk h (1, 1) 1) (3, sz) sz) q j = _
      rw [fl_l_mk, e1, fl_l_mk, h11]
      dsimp only
      by_cases q1 : q = n + 1
      · rw [if_pos q1, if_pos (by omega)]
      · rw [if_neg q1]
        by_cases q0 : q = n
        · rw [if_pos q0, if_pos (by omega)]
        · rw [if_neg q0, if_neg (by omega)]
end
