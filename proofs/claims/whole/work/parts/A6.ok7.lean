/-! THE CODE TABLES hold: the law, in pieces (printed by wip/whole/genokc.py) -/
theorem fl_ok3_of {mid : Nat} : ∀ (l : List (List (List (Option fl_E)))) (k0 : Nat), (∀ k, k < l.length → (fl_nth l [] k).length ≤ 8 ∧ fl_ok2 mid (8 * (k0 + k)) (fl_nth l [] k) = true) → fl_ok3 mid k0 l = true
  | [], _, _ => rfl
  | x :: l, k0, h => by
    obtain ⟨h1, h2⟩ := h 0 (Nat.succ_pos _)
    have h3 := fl_ok3_of l (k0 + 1) (fun k hk => by
      have := h (k + 1) (Nat.succ_lt_succ hk)
      rw [show k0 + (k + 1) = k0 + 1 + k by omega] at this
      exact this)
    have h2 : fl_ok2 mid (8 * k0) x = true := h2
    have h1 : x.length ≤ 8 := h1
    simp only [fl_ok3, Bool.and_eq_true, decide_eq_true_eq]
    exact ⟨⟨h1, h2⟩, h3⟩
theorem fl_okc265_0 : (fl_nth fl_c265 [] 0).length ≤ 8 ∧ fl_ok2 265 0 (fl_nth fl_c265 [] 0) = true := by decide +kernel
theorem fl_okc265_1 : (fl_nth fl_c265 [] 1).length ≤ 8 ∧ fl_ok2 265 8 (fl_nth fl_c265 [] 1) = true := by decide +kernel
theorem fl_okc265_2 : (fl_nth fl_c265 [] 2).length ≤ 8 ∧ fl_ok2 265 16 (fl_nth fl_c265 [] 2) = true := by decide +kernel
theorem fl_okc265_3 : (fl_nth fl_c265 [] 3).length ≤ 8 ∧ fl_ok2 265 24 (fl_nth fl_c265 [] 3) = true := by decide +kernel
theorem fl_okc265_4 : (fl_nth fl_c265 [] 4).length ≤ 8 ∧ fl_ok2 265 32 (fl_nth fl_c265 [] 4) = true := by decide +kernel
theorem fl_okc265_5 : (fl_nth fl_c265 [] 5).length ≤ 8 ∧ fl_ok2 265 40 (fl_nth fl_c265 [] 5) = true := by decide +kernel
theorem fl_okc265_6 : (fl_nth fl_c265 [] 6).length ≤ 8 ∧ fl_ok2 265 48 (fl_nth fl_c265 [] 6) = true := by decide +kernel
theorem fl_okc265_7 : (fl_nth fl_c265 [] 7).length ≤ 8 ∧ fl_ok2 265 56 (fl_nth fl_c265 [] 7) = true := by decide +kernel
theorem fl_okc265_8 : (fl_nth fl_c265 [] 8).length ≤ 8 ∧ fl_ok2 265 64 (fl_nth fl_c265 [] 8) = true := by decide +kernel
theorem fl_okc265_9 : (fl_nth fl_c265 [] 9).length ≤ 8 ∧ fl_ok2 265 72 (fl_nth fl_c265 [] 9) = true := by decide +kernel
theorem fl_okc265_10 : (fl_nth fl_c265 [] 10).length ≤ 8 ∧ fl_ok2 265 80 (fl_nth fl_c265 [] 10) = true := by decide +kernel
theorem fl_okc265_11 : (fl_nth fl_c265 [] 11).length ≤ 8 ∧ fl_ok2 265 88 (fl_nth fl_c265 [] 11) = true := by decide +kernel
theorem fl_okc265_12 : (fl_nth fl_c265 [] 12).length ≤ 8 ∧ fl_ok2 265 96 (fl_nth fl_c265 [] 12) = true := by decide +kernel
theorem fl_okc265_13 : (fl_nth fl_c265 [] 13).length ≤ 8 ∧ fl_ok2 265 104 (fl_nth fl_c265 [] 13) = true := by decide +kernel
theorem fl_okc265_14 : (fl_nth fl_c265 [] 14).length ≤ 8 ∧ fl_ok2 265 112 (fl_nth fl_c265 [] 14) = true := by decide +kernel
theorem fl_okc265 : fl_ok3 265 0 fl_c265 = true := fl_ok3_of fl_c265 0 (fun k hk => match k, hk with
  | 0, _ => fl_okc265_0
  | 1, _ => fl_okc265_1
  | 2, _ => fl_okc265_2
  | 3, _ => fl_okc265_3
  | 4, _ => fl_okc265_4
  | 5, _ => fl_okc265_5
  | 6, _ => fl_okc265_6
  | 7, _ => fl_okc265_7
  | 8, _ => fl_okc265_8
  | 9, _ => fl_okc265_9
  | 10, _ => fl_okc265_10
  | 11, _ => fl_okc265_11
  | 12, _ => fl_okc265_12
  | 13, _ => fl_okc265_13
  | 14, _ => fl_okc265_14
  | k + 15, hk => absurd hk (by rw [show fl_c265.length = 15 from rfl]; omega))
