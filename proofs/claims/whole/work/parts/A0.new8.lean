/-! CONSTRUCTORS: the table, by a check of its rows -/
def fn_en (a : Nat) : Nat × Nat := fl_nth (fl_nth fl_tK [] (a / 16)) (0, 0) (a % 16)
def fn_rw (a : Nat) : List (Option Nat) := fl_nth (fl_nth fl_tR [] (a / 16)) [] (a % 16)
theorem fn_KK {k0 : Nat → Nat × Nat} {n : Nat} (h : n < 285) : fl_KK k0 n = fn_en n := if_pos h
theorem fn_RR {n j : Nat} (h : n < 285) : fl_RR n j = fl_nth (fn_rw n) none j := if_pos h
theorem fn_nge {α : Type} {d : α} : ∀ (l : List α) (j : Nat), l.length ≤ j → fl_nth l d j = d
  | [], _, _ => rfl
  | _ :: l, 0, h => absurd h (Nat.not_succ_le_zero _)
  | _ :: l, j + 1, h => fn_nge l j (Nat.le_of_succ_le_succ h)
abbrev fn_q (n : Nat) : Prop := n ≠ 1 ∧ n ≠ 4 ∧ n ≠ 21 ∧ n ≠ 24
theorem fn_J0 {n : Nat} (h : fn_q n) (j : Nat) : fl_J n j = 0 := by
  unfold fl_J
  by_cases e : j = 1
  · rw [if_pos e, if_neg h.1, if_neg h.2.1, if_neg (fun z => z.elim h.2.2.1 h.2.2.2)]; rfl
  · rw [if_neg e]; rfl
abbrev fn_dC (n sz : Nat) : Prop := n + 1 < 285 ∧ fn_en n = (1, 1) ∧ fn_en (n + 1) = (3, sz) ∧ fn_rw n = [some (n + 1)] ∧ fn_rw (n + 1) = [] ∧ fn_q n ∧ fn_q (n + 1)
section
variable {k0 : Nat → Nat × Nat} {n sz : Nat}
theorem fn_tC (d : fn_dC n sz) : fl_tC k0 n sz := by
  obtain ⟨d1, d2, d3, d4, d5, d6, d7⟩ := d
  refine ⟨(fn_KK (by omega)).trans d2, (fn_KK d1).trans d3, fun j => ?_, fun j => ?_, fn_J0 d6, fn_J0 d7⟩
  · rw [fn_RR (by omega), d4]
    by_cases e : j = 0
    · rw [if_pos e, e]; rfl
    · rw [if_neg e]
      exact fn_nge _ _ (by show 1 ≤ j; omega)
  · rw [fn_RR d1, d5]; rfl
/-- a field, by the row -/
theorem fn_Rj {j x : Nat} (h : n < 285) (e : fl_nth (fn_rw n) none j = some x) : fl_RR n j = some x := (fn_RR h).trans e
theorem fn_Rn {j : Nat} (h : n < 285) (e : (fn_rw n).length ≤ j) : fl_RR n j = none := (fn_RR h).trans (fn_nge _ _ e)
abbrev fn_dS (n : Nat) : Prop := (n < 285 ∧ fn_en n = (1, 9) ∧ fn_rw n = [some (n + 1), some (n + 1 + 2), some (n + 1 + 2 + 2), some (n + 1 + 2 + 2 + 2)] ∧ fn_q n) ∧ fn_dC (n + 1) 12 ∧ fn_dC (n + 1 + 2) 12 ∧ fn_dC (n + 1 + 2 + 2) 12 ∧ fn_dC (n + 1 + 2 + 2 + 2) 12
theorem fn_tS (d : fn_dS n) : fl_tS k0 n := by
  obtain ⟨⟨d1, d2, d3, d4⟩, c⟩ := d
  refine ⟨⟨(fn_KK d1).trans d2, ?_, ?_, ?_, ?_, fun j hj => ?_, fn_J0 d4⟩, fn_tC c.1, fn_tC c.2.1, fn_tC c.2.2.1, fn_tC c.2.2.2⟩
  any_goals exact fn_Rj d1 (by rw [d3]; rfl)
  exact fn_Rn d1 (by rw [d3]; exact hj)
abbrev fn_dN (n : Nat) : Prop := (n < 285 ∧ fn_en n = (1, 4) ∧ fn_rw n = [none, none, none, none, none, some (n + 1), some (n + 1 + 2), some (n + 1 + 2 + 2), some (n + 1 + 2 + 2 + 2), some (n + 1 + 2 + 2 + 2 + 2), some (n + 1 + 2 + 2 + 2 + 2 + 2)] ∧ fn_q n) ∧ fn_dC (n + 1) 12 ∧ fn_dC (n + 1 + 2) 12 ∧ fn_dC (n + 1 + 2 + 2) 12 ∧ fn_dC (n + 1 + 2 + 2 + 2) 12 ∧ fn_dC (n + 1 + 2 + 2 + 2 + 2) 20 ∧ fn_dC (n + 1 + 2 + 2 + 2 + 2 + 2) 4
theorem fn_tN (d : fn_dN n) : fl_tN k0 n := by
  obtain ⟨⟨d1, d2, d3, d4⟩, c⟩ := d
  refine ⟨⟨(fn_KK d1).trans d2, ?_, ?_, ?_, ?_, ?_, ?_, fun j hj => ?_, fn_J0 d4⟩, fn_tC c.1, fn_tC c.2.1, fn_tC c.2.2.1, fn_tC c.2.2.2.1, fn_tC c.2.2.2.2.1, fn_tC c.2.2.2.2.2⟩
  any_goals exact fn_Rj d1 (by rw [d3]; rfl)
  by_cases z : 11 ≤ j
  · exact fn_Rn d1 (by rw [d3]; exact z)
  · refine (fn_RR d1).trans ?_
    rw [d3]
    rcases (show j = 0 ∨ j = 1 ∨ j = 2 ∨ j = 3 ∨ j = 4 by omega) with e | e | e | e | e <;> subst e <;> rfl
abbrev fn_dB (n : Nat) : Prop := (n < 285 ∧ fn_en n = (1, 0) ∧ fn_rw n = [some (n + 1), some (n + 1 + 9)] ∧ fn_q n) ∧ fn_dS (n + 1) ∧ fn_dS (n + 1 + 9)
theorem fn_tB (d : fn_dB n) : fl_tB k0 n := by
  obtain ⟨⟨d1, d2, d3, d4⟩, c⟩ := d
  refine ⟨⟨(fn_KK d1).trans d2, ?_, ?_, fun j hj => ?_, fn_J0 d4⟩, fn_tS c.1, fn_tS c.2⟩
  any_goals exact fn_Rj d1 (by rw [d3]; rfl)
  exact fn_Rn d1 (by rw [d3]; exact hj)
abbrev fn_dP (n sz : Nat) : Prop := (n < 285 ∧ fn_en n = (1, 5) ∧ fn_rw n = [some (n + 1)] ∧ fl_J n 1 = Int32.ofNat sz) ∧ fn_dC (n + 1) sz
theorem fn_tP (d : fn_dP n sz) : fl_tP k0 n sz := by
  obtain ⟨⟨d1, d2, d3, d4⟩, c⟩ := d
  refine ⟨⟨(fn_KK d1).trans d2, fn_Rj d1 (by rw [d3]; rfl), fun j hj => fn_Rn d1 (by rw [d3]; exact hj), fun j => ?_⟩, fn_tC c⟩
  by_cases e : j = 1
  · rw [e, d4, if_pos rfl]
  · rw [if_neg e]
    exact if_neg e
abbrev fn_dK1 (n : Nat) : Prop := (n < 285 ∧ fn_en n = (1, 2) ∧ fn_rw n = [some (n + 1)] ∧ fn_q n) ∧ fn_dC (n + 1) 64
theorem fn_tK1 (d : fn_dK1 n) : fl_tK1 k0 n := by
  obtain ⟨⟨d1, d2, d3, d4⟩, c⟩ := d
  exact ⟨⟨(fn_KK d1).trans d2, fn_Rj d1 (by rw [d3]; rfl), fun j hj => fn_Rn d1 (by rw [d3]; exact hj), fn_J0 d4⟩, fn_tC c⟩
abbrev fn_dV (n : Nat) : Prop := (n < 285 ∧ fn_en n = (1, 3) ∧ fn_rw n = [some (n + 1), some (n + 1 + 9), some (n + 1 + 9 + 2), some (n + 1 + 9 + 2 + 2)] ∧ fn_q n) ∧ fn_dS (n + 1) ∧ fn_dC (n + 1 + 9) 432 ∧ fn_dC (n + 1 + 9 + 2) 3024 ∧ fn_dC (n + 1 + 9 + 2 + 2) 3024
theorem fn_tV (d : fn_dV n) : fl_tV k0 n := by
  obtain ⟨⟨d1, d2, d3, d4⟩, c⟩ := d
  refine ⟨⟨(fn_KK d1).trans d2, ?_, ?_, ?_, ?_, fun j hj => ?_, fn_J0 d4⟩, fn_tS c.1, fn_tC c.2.1, fn_tC c.2.2.1, fn_tC c.2.2.2⟩
  any_goals exact fn_Rj d1 (by rw [d3]; rfl)
  exact fn_Rn d1 (by rw [d3]; exact hj)
abbrev fn_dRn (n : Nat) : Prop := (n < 285 ∧ fn_en n = (1, 7) ∧ fn_rw n = [some (n + 1), some (n + 1 + 13), some (n + 1 + 13 + 19), none, none, none, none, none, some (n + 1 + 13 + 19 + 2), some (n + 1 + 13 + 19 + 2 + 2)] ∧ fn_q n) ∧ fn_dN (n + 1) ∧ fn_dB (n + 1 + 13) ∧ fn_dC (n + 1 + 13 + 19) 24 ∧ fn_dC (n + 1 + 13 + 19 + 2) 64 ∧ fn_dC (n + 1 + 13 + 19 + 2 + 2) 64
theorem fn_tRn (d : fn_dRn n) : fl_tRn k0 n := by
  obtain ⟨⟨d1, d2, d3, d4⟩, c⟩ := d
  refine ⟨⟨(fn_KK d1).trans d2, ?_, ?_, ?_, ?_, ?_, fun j hj => ?_, fn_J0 d4⟩, fn_tN c.1, fn_tB c.2.1, fn_tC c.2.2.1, fn_tC c.2.2.2.1, fn_tC c.2.2.2.2⟩
  any_goals exact fn_Rj d1 (by rw [d3]; rfl)
  by_cases z : 10 ≤ j
  · exact fn_Rn d1 (by rw [d3]; exact z)
  · refine (fn_RR d1).trans ?_
    rw [d3]
    rcases (show j = 3 ∨ j = 4 ∨ j = 5 ∨ j = 6 ∨ j = 7 by omega) with e | e | e | e | e <;> subst e <;> rfl
abbrev fn_dRd (n : Nat) : Prop := (n < 285 ∧ fn_en n = (1, 6) ∧ fn_rw n = [some (n + 1), some (n + 1 + 13), some (n + 1 + 13 + 3)] ∧ fn_q n) ∧ fn_dN (n + 1) ∧ fn_dP (n + 1 + 13) 4 ∧ fn_dP (n + 1 + 13 + 3) 4
theorem fn_tRd (d : fn_dRd n) : fl_tRd k0 n := by
  obtain ⟨⟨d1, d2, d3, d4⟩, c⟩ := d
  refine ⟨⟨(fn_KK d1).trans d2, ?_, ?_, ?_, fun j hj => ?_, fn_J0 d4⟩, fn_tN c.1, fn_tP c.2.1, fn_tP c.2.2⟩
  any_goals exact fn_Rj d1 (by rw [d3]; rfl)
  exact fn_Rn d1 (by rw [d3]; exact hj)
abbrev fn_dSe (n : Nat) : Prop := (n < 285 ∧ fn_en n = (1, 8) ∧ fn_rw n = [some (n + 1), some (n + 1 + 2), some (n + 1 + 2 + 16), some (n + 1 + 2 + 16 + 16), some (n + 1 + 2 + 16 + 16 + 2), some (n + 1 + 2 + 16 + 16 + 2 + 2), some (n + 1 + 2 + 16 + 16 + 2 + 2 + 2), some (n + 1 + 2 + 16 + 16 + 2 + 2 + 2 + 2)] ∧ fn_q n) ∧ fn_dC (n + 1) 6 ∧ fn_dV (n + 1 + 2) ∧ fn_dV (n + 1 + 2 + 16) ∧ fn_dC (n + 1 + 2 + 16 + 16) 729 ∧ fn_dC (n + 1 + 2 + 16 + 16 + 2) 729 ∧ fn_dC (n + 1 + 2 + 16 + 16 + 2 + 2) 729 ∧ fn_dC (n + 1 + 2 + 16 + 16 + 2 + 2 + 2) 729 ∧ fn_dC (n + 1 + 2 + 16 + 16 + 2 + 2 + 2 + 2) 729
theorem fn_tSe (d : fn_dSe n) : fl_tSe k0 n := by
  obtain ⟨⟨d1, d2, d3, d4⟩, c⟩ := d
  refine ⟨⟨(fn_KK d1).trans d2, ?_, ?_, ?_, ?_, ?_, ?_, ?_, ?_, fun j hj => ?_, fn_J0 d4⟩, fn_tC c.1, fn_tV c.2.1, fn_tV c.2.2.1, fn_tC c.2.2.2.1, fn_tC c.2.2.2.2.1, fn_tC c.2.2.2.2.2.1, fn_tC c.2.2.2.2.2.2.1, fn_tC c.2.2.2.2.2.2.2⟩
  any_goals exact fn_Rj d1 (by rw [d3]; rfl)
  exact fn_Rn d1 (by rw [d3]; exact hj)
end
/-- the check -/
theorem fn_and {p q : Prop} {x y : Bool} (a : x = true → p) (b : y = true → q) (h : (x && y) = true) : p ∧ q := ⟨a ((Bool.and_eq_true x y).mp h).1, b ((Bool.and_eq_true x y).mp h).2⟩
def fn_bC (n sz : Nat) : Bool := decide (n + 1 < 285 ∧ fn_en n = (1, 1) ∧ fn_en (n + 1) = (3, sz) ∧ fn_rw n = [some (n + 1)] ∧ fn_rw (n + 1) = [] ∧ fn_q n ∧ fn_q (n + 1))
theorem fn_bC_of {n sz : Nat} (h : fn_bC n sz = true) : fn_dC n sz := of_decide_eq_true h
def fn_bS (n : Nat) : Bool := (decide (n < 285 ∧ fn_en n = (1, 9) ∧ fn_rw n = [some (n + 1), some (n + 1 + 2), some (n + 1 + 2 + 2), some (n + 1 + 2 + 2 + 2)] ∧ fn_q n) && (fn_bC (n + 1) 12 && (fn_bC (n + 1 + 2) 12 && (fn_bC (n + 1 + 2 + 2) 12 && fn_bC (n + 1 + 2 + 2 + 2) 12))))
theorem fn_bS_of {n : Nat} (h : fn_bS n = true) : fn_dS n := (fn_and of_decide_eq_true (fn_and fn_bC_of (fn_and fn_bC_of (fn_and fn_bC_of fn_bC_of)))) h
def fn_bN (n : Nat) : Bool := (decide (n < 285 ∧ fn_en n = (1, 4) ∧ fn_rw n = [none, none, none, none, none, some (n + 1), some (n + 1 + 2), some (n + 1 + 2 + 2), some (n + 1 + 2 + 2 + 2), some (n + 1 + 2 + 2 + 2 + 2), some (n + 1 + 2 + 2 + 2 + 2 + 2)] ∧ fn_q n) && (fn_bC (n + 1) 12 && (fn_bC (n + 1 + 2) 12 && (fn_bC (n + 1 + 2 + 2) 12 && (fn_bC (n + 1 + 2 + 2 + 2) 12 && (fn_bC (n + 1 + 2 + 2 + 2 + 2) 20 && fn_bC (n + 1 + 2 + 2 + 2 + 2 + 2) 4))))))
theorem fn_bN_of {n : Nat} (h : fn_bN n = true) : fn_dN n := (fn_and of_decide_eq_true (fn_and fn_bC_of (fn_and fn_bC_of (fn_and fn_bC_of (fn_and fn_bC_of (fn_and fn_bC_of fn_bC_of)))))) h
def fn_bB (n : Nat) : Bool := (decide (n < 285 ∧ fn_en n = (1, 0) ∧ fn_rw n = [some (n + 1), some (n + 1 + 9)] ∧ fn_q n) && (fn_bS (n + 1) && fn_bS (n + 1 + 9)))
theorem fn_bB_of {n : Nat} (h : fn_bB n = true) : fn_dB n := (fn_and of_decide_eq_true (fn_and fn_bS_of fn_bS_of)) h
def fn_bP (n sz : Nat) : Bool := (decide (n < 285 ∧ fn_en n = (1, 5) ∧ fn_rw n = [some (n + 1)] ∧ fl_J n 1 = Int32.ofNat sz) && fn_bC (n + 1) sz)
theorem fn_bP_of {n sz : Nat} (h : fn_bP n sz = true) : fn_dP n sz := (fn_and of_decide_eq_true fn_bC_of) h
def fn_bK1 (n : Nat) : Bool := (decide (n < 285 ∧ fn_en n = (1, 2) ∧ fn_rw n = [some (n + 1)] ∧ fn_q n) && fn_bC (n + 1) 64)
theorem fn_bK1_of {n : Nat} (h : fn_bK1 n = true) : fn_dK1 n := (fn_and of_decide_eq_true fn_bC_of) h
def fn_bV (n : Nat) : Bool := (decide (n < 285 ∧ fn_en n = (1, 3) ∧ fn_rw n = [some (n + 1), some (n + 1 + 9), some (n + 1 + 9 + 2), some (n + 1 + 9 + 2 + 2)] ∧ fn_q n) && (fn_bS (n + 1) && (fn_bC (n + 1 + 9) 432 && (fn_bC (n + 1 + 9 + 2) 3024 && fn_bC (n + 1 + 9 + 2 + 2) 3024))))
theorem fn_bV_of {n : Nat} (h : fn_bV n = true) : fn_dV n := (fn_and of_decide_eq_true (fn_and fn_bS_of (fn_and fn_bC_of (fn_and fn_bC_of fn_bC_of)))) h
def fn_bRn (n : Nat) : Bool := (decide (n < 285 ∧ fn_en n = (1, 7) ∧ fn_rw n = [some (n + 1), some (n + 1 + 13), some (n + 1 + 13 + 19), none, none, none, none, none, some (n + 1 + 13 + 19 + 2), some (n + 1 + 13 + 19 + 2 + 2)] ∧ fn_q n) && (fn_bN (n + 1) && (fn_bB (n + 1 + 13) && (fn_bC (n + 1 + 13 + 19) 24 && (fn_bC (n + 1 + 13 + 19 + 2) 64 && fn_bC (n + 1 + 13 + 19 + 2 + 2) 64)))))
theorem fn_bRn_of {n : Nat} (h : fn_bRn n = true) : fn_dRn n := (fn_and of_decide_eq_true (fn_and fn_bN_of (fn_and fn_bB_of (fn_and fn_bC_of (fn_and fn_bC_of fn_bC_of))))) h
def fn_bRd (n : Nat) : Bool := (decide (n < 285 ∧ fn_en n = (1, 6) ∧ fn_rw n = [some (n + 1), some (n + 1 + 13), some (n + 1 + 13 + 3)] ∧ fn_q n) && (fn_bN (n + 1) && (fn_bP (n + 1 + 13) 4 && fn_bP (n + 1 + 13 + 3) 4)))
theorem fn_bRd_of {n : Nat} (h : fn_bRd n = true) : fn_dRd n := (fn_and of_decide_eq_true (fn_and fn_bN_of (fn_and fn_bP_of fn_bP_of))) h
def fn_bSe (n : Nat) : Bool := (decide (n < 285 ∧ fn_en n = (1, 8) ∧ fn_rw n = [some (n + 1), some (n + 1 + 2), some (n + 1 + 2 + 16), some (n + 1 + 2 + 16 + 16), some (n + 1 + 2 + 16 + 16 + 2), some (n + 1 + 2 + 16 + 16 + 2 + 2), some (n + 1 + 2 + 16 + 16 + 2 + 2 + 2), some (n + 1 + 2 + 16 + 16 + 2 + 2 + 2 + 2)] ∧ fn_q n) && (fn_bC (n + 1) 6 && (fn_bV (n + 1 + 2) && (fn_bV (n + 1 + 2 + 16) && (fn_bC (n + 1 + 2 + 16 + 16) 729 && (fn_bC (n + 1 + 2 + 16 + 16 + 2) 729 && (fn_bC (n + 1 + 2 + 16 + 16 + 2 + 2) 729 && (fn_bC (n + 1 + 2 + 16 + 16 + 2 + 2 + 2) 729 && fn_bC (n + 1 + 2 + 16 + 16 + 2 + 2 + 2 + 2) 729))))))))
theorem fn_bSe_of {n : Nat} (h : fn_bSe n = true) : fn_dSe n := (fn_and of_decide_eq_true (fn_and fn_bC_of (fn_and fn_bV_of (fn_and fn_bV_of (fn_and fn_bC_of (fn_and fn_bC_of (fn_and fn_bC_of (fn_and fn_bC_of fn_bC_of)))))))) h
theorem fn_ok_1 : fn_dP 1 80 := fn_bP_of (by decide +kernel)
theorem fn_ok_4 : fn_dP 4 6 := fn_bP_of (by decide +kernel)
theorem fn_ok_7 : fn_dRd 7 := fn_bRd_of (by decide +kernel)
theorem fn_ok_27 : fn_dRn 27 := fn_bRn_of (by decide +kernel)
theorem fn_ok_66 : fn_dRn 66 := fn_bRn_of (by decide +kernel)
theorem fn_ok_105 : fn_dRn 105 := fn_bRn_of (by decide +kernel)
theorem fn_ok_144 : fn_dRn 144 := fn_bRn_of (by decide +kernel)
theorem fn_ok_183 : fn_dB 183 := fn_bB_of (by decide +kernel)
theorem fn_ok_202 : fn_dS 202 := fn_bS_of (by decide +kernel)
theorem fn_ok_211 : fn_dK1 211 := fn_bK1_of (by decide +kernel)
theorem fn_ok_214 : fn_dSe 214 := fn_bSe_of (by decide +kernel)
