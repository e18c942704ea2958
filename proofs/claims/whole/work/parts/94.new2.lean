/-! AN OBJECT that is being made: some of its fields are there -/
/-- the object at n, all made below p, the fields F are set, ints of the object itself are as G says -/
def fl_pg (k0 : Nat → Nat × Nat) (h H : fl_H) (n p sl : Nat) (F : Nat → Bool) (G : Nat → Int32) : Prop := n < p ∧ H.1 = (p, h.1.2.1 + (p - n), h.1.2.2.1 + sl, true) ∧ (∀ q, fl_k H q = if n ≤ q ∧ q < p then fl_KK k0 q else fl_k h q) ∧ (∀ q j, fl_r H q j = if q = n then (if F j = true then fl_RR n j else none) else if n ≤ q ∧ q < p then fl_RR q j else fl_r h q j) ∧ (∀ q j, fl_i H q j = if q = n then G j else if n ≤ q ∧ q < p then fl_J q j else fl_i h q j) ∧ ∀ q j, fl_l H q j = if n ≤ q ∧ q < p then 0 else fl_l h q j
section
variable {k0 : Nat → Nat × Nat} {h H H' : fl_H} {n p m sl s f : Nat} {F : Nat → Bool} {G : Nat → Int32}
/-- the object itself -/
theorem fn_mk {a b : Nat} {kd : Nat × Nat} (h1 : h.1 = (n, a, b, true)) (K : fl_KK k0 n = kd) : fl_pg k0 h (fl_mk h kd f) n (n + 1) f (fun _ => false) (fun _ => 0) := by
  have h11 : h.1.1 = n := by rw [h1]
  refine ⟨Nat.lt_succ_self n, by rw [fl_1_mk, h1]; simp only [Nat.add_sub_cancel_left], fun q => ?_, fun q j => ?_, fun q j => ?_, fun q j => ?_⟩
  · rw [fl_k_mk, h11]
    by_cases q0 : q = n
    · rw [if_pos q0, if_pos (by omega), q0, K]
    · rw [if_neg q0, if_neg (by omega)]
  · rw [fl_r_mk, h11]
    by_cases q0 : q = n
    · rw [if_pos q0, if_pos q0, if_neg Bool.false_ne_true]
    · rw [if_neg q0, if_neg q0, if_neg (by omega)]
  · rw [fl_i_mk, h11]
    by_cases q0 : q = n
    · rw [if_pos q0, if_pos q0]
    · rw [if_neg q0, if_neg q0, if_neg (by omega)]
  · rw [fl_l_mk, h11]
    by_cases q0 : q = n
    · rw [if_pos q0, if_pos (by omega)]
    · rw [if_neg q0, if_neg (by omega)]
/-- a field more, with what it holds -/
theorem fn_fld {j : Nat} (a : fl_pg k0 h H n p sl F G) (c : fl_cn k0 H H' p m s) (R : fl_RR n j = some p) : fl_pg k0 h (fl_sr H' n j p) n (p + m) (sl + s) (fl_up F j true) G := by
  obtain ⟨np, a1, ak, ar, ai, al⟩ := a
  obtain ⟨c1, ck, cr, ci, cl⟩ := c
  refine ⟨by omega, ?_, fun q => ?_, fun q i => ?_, fun q i => ?_, fun q i => ?_⟩
  · show H'.1 = _
    rw [c1, a1]
    simp only [Prod.mk.injEq, true_and, and_true]
    exact ⟨by omega, by omega⟩
  · show fl_k H' q = _
    rw [ck q, ak q]
    by_cases z : p ≤ q ∧ q < p + m
    · rw [if_pos z, if_pos (by omega)]
    · rw [if_neg z]
      by_cases z2 : n ≤ q ∧ q < p
      · rw [if_pos z2, if_pos (by omega)]
      · rw [if_neg z2, if_neg (by omega)]
  · rw [fn_r_sr, cr q i, ar q i]
    by_cases q0 : q = n
    · by_cases i0 : i = j
      · rw [if_pos ⟨q0, i0⟩, if_pos q0, i0, fl_up_self, if_pos rfl, R]
      · rw [if_neg (fun z => i0 z.2), if_neg (by omega), if_pos q0, if_pos q0, fl_up_ne i0]
    · rw [if_neg (fun z => q0 z.1), if_neg q0, if_neg q0]
      by_cases z : p ≤ q ∧ q < p + m
      · rw [if_pos z, if_pos (by omega)]
      · rw [if_neg z]
        by_cases z2 : n ≤ q ∧ q < p
        · rw [if_pos z2, if_pos (by omega)]
        · rw [if_neg z2, if_neg (by omega)]
  · show fl_i H' q i = _
    rw [ci q i, ai q i]
    by_cases q0 : q = n
    · rw [if_neg (by omega), if_pos q0, if_pos q0]
    · rw [if_neg q0, if_neg q0]
      by_cases z : p ≤ q ∧ q < p + m
      · rw [if_pos z, if_pos (by omega)]
      · rw [if_neg z]
        by_cases z2 : n ≤ q ∧ q < p
        · rw [if_pos z2, if_pos (by omega)]
        · rw [if_neg z2, if_neg (by omega)]
  · show fl_l H' q i = _
    rw [cl q i, al q i]
    by_cases z : p ≤ q ∧ q < p + m
    · rw [if_pos z, if_pos (by omega)]
    · rw [if_neg z]
      by_cases z2 : n ≤ q ∧ q < p
      · rw [if_pos z2, if_pos (by omega)]
      · rw [if_neg z2, if_neg (by omega)]
/-- all fields are there -/
theorem fn_done (a : fl_pg k0 h H n (n + m) sl F G) (R : ∀ j, F j = false → fl_RR n j = none) (J : ∀ j, G j = fl_J n j) : fl_cn k0 h H n m sl := by
  obtain ⟨np, a1, ak, ar, ai, al⟩ := a
  refine ⟨by rw [a1, Nat.add_sub_cancel_left], ak, fun q j => ?_, fun q j => ?_, al⟩
  · rw [ar q j]
    by_cases q0 : q = n
    · have fr : (if F j = true then fl_RR n j else none) = fl_RR n j := by
        cases z : F j with
        | true => exact if_pos rfl
        | false => exact (if_neg Bool.false_ne_true).trans (R j z).symm
      rw [if_pos q0, fr, if_pos (show n ≤ q ∧ q < n + m by omega), q0]
    · rw [if_neg q0]
  · rw [ai q j]
    by_cases q0 : q = n
    · rw [if_pos q0, if_pos (show n ≤ q ∧ q < n + m by omega), q0, J]
    · rw [if_neg q0]
end
