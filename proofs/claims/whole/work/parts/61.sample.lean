/-! sample -/
/-- numbers from r on, by steps of k -/
theorem fl_stp (F k : Nat) (hk : 1 ≤ k) : ∀ d r, F ≤ r + d → ∃ n, n ≤ d ∧ (∀ j, j < n → r + j * k < F) ∧ F ≤ r + n * k
  | 0, r, h => ⟨0, by omega, fun j hj => by omega, by omega⟩
  | d + 1, r, h => by
    by_cases e : F ≤ r
    · exact ⟨0, by omega, fun j hj => by omega, by omega⟩
    · obtain ⟨n, h1, h2, h3⟩ := fl_stp F k hk d (r + k) (by omega)
      refine ⟨n + 1, by omega, fun j hj => ?_, by rw [Nat.add_mul]; omega⟩
      cases j with
      | zero => omega
      | succ j => have := h2 j (by omega); rw [Nat.add_mul]; omega
/-- least terms, as the class finds them: above, below, by what may divide both -/
def fl_red : Nat → Nat → Nat → Nat × Nat
  | 0, A, B => (A, B)
  | d + 1, A, B => if d + 1 ≤ 1 then (A, B) else if A % (d + 1) = 0 ∧ B % (d + 1) = 0 then fl_red d (A / (d + 1)) (B / (d + 1)) else fl_red d A B
/-- as the reference does: some steps are enough -/
def fl_eu : Nat → Nat → Nat → Nat
  | 0, a, _ => a
  | L + 1, a, b => if b = 0 then a else fl_eu L b (a % b)
def fl_ed : Nat → Nat → Nat → Bool
  | 0, _, b => decide (b = 0)
  | L + 1, a, b => decide (b = 0) || fl_ed L b (a % b)
def fl_gok (a b : Nat) : Bool := fl_ed 12 b a && decide (fl_eu 12 b a ≠ 0) && decide (fl_eu 12 b a ≤ 64) && decide (fl_red b a b = (a / fl_eu 12 b a, b / fl_eu 12 b a))
set_option maxRecDepth 100000 in
theorem fl_gok_all : ∀ b, b < 65 → ∀ a, a < 65 → b = 0 ∨ b < a ∨ fl_gok a b = true := by decide +kernel
section
variable {k0 : Nat → Nat × Nat} {h h' : fl_H} {c : Nat × Nat × Nat × Bool}
theorem fr_com : ∀ L, L < 13 → ∀ a b, a ≤ 64 → b ≤ 64 → fl_ed L a b = true → fl_cl fl_C (175 + L) [.int (Int32.ofNat a), .int (Int32.ofNat b)] h = some (some (some (.int (Int32.ofNat (fl_eu L a b)))), h) := by
  have z0 : ∀ m, m < 13 → ∀ a, fl_cl fl_C (175 + m) [.int (Int32.ofNat a), .int (Int32.ofNat 0)] h = some (some (some (.int (Int32.ofNat a))), h) := fun m hm a => by
    rcases (show m = 0 ∨ m = 1 ∨ m = 2 ∨ m = 3 ∨ m = 4 ∨ m = 5 ∨ m = 6 ∨ m = 7 ∨ m = 8 ∨ m = 9 ∨ m = 10 ∨ m = 11 ∨ m = 12 by omega) with e | e | e | e | e | e | e | e | e | e | e | e | e <;> subst e
    · show fl_cl fl_C 175 _ h = _; rw [fbE_175]; simp (disch := omega) only [fl_lit, fl_nadd, fl_nmul, fl_ndiv, fl_nsub, fl_msub, fl_nle, fl_nlt, fl_neq, fl_nclamp, fl_nin, fl_ltT, fl_ltF, fl_leT, fl_leF, fl_eqT, fl_eqF, decide_true, decide_false, Bool.true_and, Bool.and_true, Bool.false_and, Bool.and_false, if_true, if_false, Bool.false_eq_true, Option.isSome_some, Option.getD_some, not_true_eq_false, not_false_eq_true, Option.toList_some, Option.toList_none, List.cons_append, List.nil_append]
    · show fl_cl fl_C 176 _ h = _; rw [fbE_176]; simp (disch := omega) only [fl_lit, fl_nadd, fl_nmul, fl_ndiv, fl_nsub, fl_msub, fl_nle, fl_nlt, fl_neq, fl_nclamp, fl_nin, fl_ltT, fl_ltF, fl_leT, fl_leF, fl_eqT, fl_eqF, decide_true, decide_false, Bool.true_and, Bool.and_true, Bool.false_and, Bool.and_false, if_true, if_false, Bool.false_eq_true, Option.isSome_some, Option.getD_some, not_true_eq_false, not_false_eq_true, Option.toList_some, Option.toList_none, List.cons_append, List.nil_append]
    · show fl_cl fl_C 177 _ h = _; rw [fbE_177]; simp (disch := omega) only [fl_lit, fl_nadd, fl_nmul, fl_ndiv, fl_nsub, fl_msub, fl_nle, fl_nlt, fl_neq, fl_nclamp, fl_nin, fl_ltT, fl_ltF, fl_leT, fl_leF, fl_eqT, fl_eqF, decide_true, decide_false, Bool.true_and, Bool.and_true, Bool.false_and, Bool.and_false, if_true, if_false, Bool.false_eq_true, Option.isSome_some, Option.getD_some, not_true_eq_false, not_false_eq_true, Option.toList_some, Option.toList_none, List.cons_append, List.nil_append]
    · show fl_cl fl_C 178 _ h = _; rw [fbE_178]; simp (disch := omega) only [fl_lit, fl_nadd, fl_nmul, fl_ndiv, fl_nsub, fl_msub, fl_nle, fl_nlt, fl_neq, fl_nclamp, fl_nin, fl_ltT, fl_ltF, fl_leT, fl_leF, fl_eqT, fl_eqF, decide_true, decide_false, Bool.true_and, Bool.and_true, Bool.false_and, Bool.and_false, if_true, if_false, Bool.false_eq_true, Option.isSome_some, Option.getD_some, not_true_eq_false, not_false_eq_true, Option.toList_some, Option.toList_none, List.cons_append, List.nil_append]
    · show fl_cl fl_C 179 _ h = _; rw [fbE_179]; simp (disch := omega) only [fl_lit, fl_nadd, fl_nmul, fl_ndiv, fl_nsub, fl_msub, fl_nle, fl_nlt, fl_neq, fl_nclamp, fl_nin, fl_ltT, fl_ltF, fl_leT, fl_leF, fl_eqT, fl_eqF, decide_true, decide_false, Bool.true_and, Bool.and_true, Bool.false_and, Bool.and_false, if_true, if_false, Bool.false_eq_true, Option.isSome_some, Option.getD_some, not_true_eq_false, not_false_eq_true, Option.toList_some, Option.toList_none, List.cons_append, List.nil_append]
    · show fl_cl fl_C 180 _ h = _; rw [fbE_180]; simp (disch := omega) only [fl_lit, fl_nadd, fl_nmul, fl_ndiv, fl_nsub, fl_msub, fl_nle, fl_nlt, fl_neq, fl_nclamp, fl_nin, fl_ltT, fl_ltF, fl_leT, fl_leF, fl_eqT, fl_eqF, decide_true, decide_false, Bool.true_and, Bool.and_true, Bool.false_and, Bool.and_false, if_true, if_false, Bool.false_eq_true, Option.isSome_some, Option.getD_some, not_true_eq_false, not_false_eq_true, Option.toList_some, Option.toList_none, List.cons_append, List.nil_append]
    · show fl_cl fl_C 181 _ h = _; rw [fbE_181]; simp (disch := omega) only [fl_lit, fl_nadd, fl_nmul, fl_ndiv, fl_nsub, fl_msub, fl_nle, fl_nlt, fl_neq, fl_nclamp, fl_nin, fl_ltT, fl_ltF, fl_leT, fl_leF, fl_eqT, fl_eqF, decide_true, decide_false, Bool.true_and, Bool.and_true, Bool.false_and, Bool.and_false, if_true, if_false, Bool.false_eq_true, Option.isSome_some, Option.getD_some, not_true_eq_false, not_false_eq_true, Option.toList_some, Option.toList_none, List.cons_append, List.nil_append]
    · show fl_cl fl_C 182 _ h = _; rw [fbE_182]; simp (disch := omega) only [fl_lit, fl_nadd, fl_nmul, fl_ndiv, fl_nsub, fl_msub, fl_nle, fl_nlt, fl_neq, fl_nclamp, fl_nin, fl_ltT, fl_ltF, fl_leT, fl_leF, fl_eqT, fl_eqF, decide_true, decide_false, Bool.true_and, Bool.and_true, Bool.false_and, Bool.and_false, if_true, if_false, Bool.false_eq_true, Option.isSome_some, Option.getD_some, not_true_eq_false, not_false_eq_true, Option.toList_some, Option.toList_none, List.cons_append, List.nil_append]
    · show fl_cl fl_C 183 _ h = _; rw [fbE_183]; simp (disch := omega) only [fl_lit, fl_nadd, fl_nmul, fl_ndiv, fl_nsub, fl_msub, fl_nle, fl_nlt, fl_neq, fl_nclamp, fl_nin, fl_ltT, fl_ltF, fl_leT, fl_leF, fl_eqT, fl_eqF, decide_true, decide_false, Bool.true_and, Bool.and_true, Bool.false_and, Bool.and_false, if_true, if_false, Bool.false_eq_true, Option.isSome_some, Option.getD_some, not_true_eq_false, not_false_eq_true, Option.toList_some, Option.toList_none, List.cons_append, List.nil_append]
    · show fl_cl fl_C 184 _ h = _; rw [fbE_184]; simp (disch := omega) only [fl_lit, fl_nadd, fl_nmul, fl_ndiv, fl_nsub, fl_msub, fl_nle, fl_nlt, fl_neq, fl_nclamp, fl_nin, fl_ltT, fl_ltF, fl_leT, fl_leF, fl_eqT, fl_eqF, decide_true, decide_false, Bool.true_and, Bool.and_true, Bool.false_and, Bool.and_false, if_true, if_false, Bool.false_eq_true, Option.isSome_some, Option.getD_some, not_true_eq_false, not_false_eq_true, Option.toList_some, Option.toList_none, List.cons_append, List.nil_append]
    · show fl_cl fl_C 185 _ h = _; rw [fbE_185]; simp (disch := omega) only [fl_lit, fl_nadd, fl_nmul, fl_ndiv, fl_nsub, fl_msub, fl_nle, fl_nlt, fl_neq, fl_nclamp, fl_nin, fl_ltT, fl_ltF, fl_leT, fl_leF, fl_eqT, fl_eqF, decide_true, decide_false, Bool.true_and, Bool.and_true, Bool.false_and, Bool.and_false, if_true, if_false, Bool.false_eq_true, Option.isSome_some, Option.getD_some, not_true_eq_false, not_false_eq_true, Option.toList_some, Option.toList_none, List.cons_append, List.nil_append]
    · show fl_cl fl_C 186 _ h = _; rw [fbE_186]; simp (disch := omega) only [fl_lit, fl_nadd, fl_nmul, fl_ndiv, fl_nsub, fl_msub, fl_nle, fl_nlt, fl_neq, fl_nclamp, fl_nin, fl_ltT, fl_ltF, fl_leT, fl_leF, fl_eqT, fl_eqF, decide_true, decide_false, Bool.true_and, Bool.and_true, Bool.false_and, Bool.and_false, if_true, if_false, Bool.false_eq_true, Option.isSome_some, Option.getD_some, not_true_eq_false, not_false_eq_true, Option.toList_some, Option.toList_none, List.cons_append, List.nil_append]
    · show fl_cl fl_C 187 _ h = _; rw [fbE_187]; simp (disch := omega) only [fl_lit, fl_nadd, fl_nmul, fl_ndiv, fl_nsub, fl_msub, fl_nle, fl_nlt, fl_neq, fl_nclamp, fl_nin, fl_ltT, fl_ltF, fl_leT, fl_leF, fl_eqT, fl_eqF, decide_true, decide_false, Bool.true_and, Bool.and_true, Bool.false_and, Bool.and_false, if_true, if_false, Bool.false_eq_true, Option.isSome_some, Option.getD_some, not_true_eq_false, not_false_eq_true, Option.toList_some, Option.toList_none, List.cons_append, List.nil_append]
  intro L
  induction L with
  | zero =>
    intro hL a b ha hb hd
    have e : b = 0 := of_decide_eq_true hd
    subst e
    exact z0 0 (by omega) a
  | succ L ih =>
    intro hL a b ha hb hd
    by_cases e : b = 0
    · subst e
      exact z0 (L + 1) hL a
    · have hd' : fl_ed L b (a % b) = true := by
        unfold fl_ed at hd
        rw [decide_eq_false e, Bool.false_or] at hd
        exact hd
      have md := Nat.mod_lt a (show 0 < b by omega)
      have ih' := ih (by omega) b (a % b) hb (by omega) hd'
      have eu : fl_eu (L + 1) a b = fl_eu L b (a % b) := by rw [fl_eu, if_neg e]
      rw [eu]
      have dl := fl_dle a b
      clear ih hd hd' z0 eu
      rcases (show L = 0 ∨ L = 1 ∨ L = 2 ∨ L = 3 ∨ L = 4 ∨ L = 5 ∨ L = 6 ∨ L = 7 ∨ L = 8 ∨ L = 9 ∨ L = 10 ∨ L = 11 by omega) with z | z | z | z | z | z | z | z | z | z | z | z <;> subst z
      · have ih : fl_cl fl_C 175 _ h = _ := ih'; show fl_cl fl_C 176 _ h = _; rw [fbE_176]; simp (disch := omega) only [fl_lit, fl_nadd, fl_nmul, fl_ndiv, fl_nsub, fl_msub, fl_nle, fl_nlt, fl_neq, fl_nclamp, fl_nin, fl_ltT, fl_ltF, fl_leT, fl_leF, fl_eqT, fl_eqF, decide_true, decide_false, Bool.true_and, Bool.and_true, Bool.false_and, Bool.and_false, if_true, if_false, Bool.false_eq_true, Option.isSome_some, Option.getD_some, not_true_eq_false, not_false_eq_true, Option.toList_some, Option.toList_none, List.cons_append, List.nil_append, fl_nmod, ih, fbP_176_15]
      · have ih : fl_cl fl_C 176 _ h = _ := ih'; show fl_cl fl_C 177 _ h = _; rw [fbE_177]; simp (disch := omega) only [fl_lit, fl_nadd, fl_nmul, fl_ndiv, fl_nsub, fl_msub, fl_nle, fl_nlt, fl_neq, fl_nclamp, fl_nin, fl_ltT, fl_ltF, fl_leT, fl_leF, fl_eqT, fl_eqF, decide_true, decide_false, Bool.true_and, Bool.and_true, Bool.false_and, Bool.and_false, if_true, if_false, Bool.false_eq_true, Option.isSome_some, Option.getD_some, not_true_eq_false, not_false_eq_true, Option.toList_some, Option.toList_none, List.cons_append, List.nil_append, fl_nmod, ih, fbP_177_15]
      · have ih : fl_cl fl_C 177 _ h = _ := ih'; show fl_cl fl_C 178 _ h = _; rw [fbE_178]; simp (disch := omega) only [fl_lit, fl_nadd, fl_nmul, fl_ndiv, fl_nsub, fl_msub, fl_nle, fl_nlt, fl_neq, fl_nclamp, fl_nin, fl_ltT, fl_ltF, fl_leT, fl_leF, fl_eqT, fl_eqF, decide_true, decide_false, Bool.true_and, Bool.and_true, Bool.false_and, Bool.and_false, if_true, if_false, Bool.false_eq_true, Option.isSome_some, Option.getD_some, not_true_eq_false, not_false_eq_true, Option.toList_some, Option.toList_none, List.cons_append, List.nil_append, fl_nmod, ih, fbP_178_15]
      · have ih : fl_cl fl_C 178 _ h = _ := ih'; show fl_cl fl_C 179 _ h = _; rw [fbE_179]; simp (disch := omega) only [fl_lit, fl_nadd, fl_nmul, fl_ndiv, fl_nsub, fl_msub, fl_nle, fl_nlt, fl_neq, fl_nclamp, fl_nin, fl_ltT, fl_ltF, fl_leT, fl_leF, fl_eqT, fl_eqF, decide_true, decide_false, Bool.true_and, Bool.and_true, Bool.false_and, Bool.and_false, if_true, if_false, Bool.false_eq_true, Option.isSome_some, Option.getD_some, not_true_eq_false, not_false_eq_true, Option.toList_some, Option.toList_none, List.cons_append, List.nil_append, fl_nmod, ih, fbP_179_15]
      · have ih : fl_cl fl_C 179 _ h = _ := ih'; show fl_cl fl_C 180 _ h = _; rw [fbE_180]; simp (disch := omega) only [fl_lit, fl_nadd, fl_nmul, fl_ndiv, fl_nsub, fl_msub, fl_nle, fl_nlt, fl_neq, fl_nclamp, fl_nin, fl_ltT, fl_ltF, fl_leT, fl_leF, fl_eqT, fl_eqF, decide_true, decide_false, Bool.true_and, Bool.and_true, Bool.false_and, Bool.and_false, if_true, if_false, Bool.false_eq_true, Option.isSome_some, Option.getD_some, not_true_eq_false, not_false_eq_true, Option.toList_some, Option.toList_none, List.cons_append, List.nil_append, fl_nmod, ih, fbP_180_15]
      · have ih : fl_cl fl_C 180 _ h = _ := ih'; show fl_cl fl_C 181 _ h = _; rw [fbE_181]; simp (disch := omega) only [fl_lit, fl_nadd, fl_nmul, fl_ndiv, fl_nsub, fl_msub, fl_nle, fl_nlt, fl_neq, fl_nclamp, fl_nin, fl_ltT, fl_ltF, fl_leT, fl_leF, fl_eqT, fl_eqF, decide_true, decide_false, Bool.true_and, Bool.and_true, Bool.false_and, Bool.and_false, if_true, if_false, Bool.false_eq_true, Option.isSome_some, Option.getD_some, not_true_eq_false, not_false_eq_true, Option.toList_some, Option.toList_none, List.cons_append, List.nil_append, fl_nmod, ih, fbP_181_15]
      · have ih : fl_cl fl_C 181 _ h = _ := ih'; show fl_cl fl_C 182 _ h = _; rw [fbE_182]; simp (disch := omega) only [fl_lit, fl_nadd, fl_nmul, fl_ndiv, fl_nsub, fl_msub, fl_nle, fl_nlt, fl_neq, fl_nclamp, fl_nin, fl_ltT, fl_ltF, fl_leT, fl_leF, fl_eqT, fl_eqF, decide_true, decide_false, Bool.true_and, Bool.and_true, Bool.false_and, Bool.and_false, if_true, if_false, Bool.false_eq_true, Option.isSome_some, Option.getD_some, not_true_eq_false, not_false_eq_true, Option.toList_some, Option.toList_none, List.cons_append, List.nil_append, fl_nmod, ih, fbP_182_15]
      · have ih : fl_cl fl_C 182 _ h = _ := ih'; show fl_cl fl_C 183 _ h = _; rw [fbE_183]; simp (disch := omega) only [fl_lit, fl_nadd, fl_nmul, fl_ndiv, fl_nsub, fl_msub, fl_nle, fl_nlt, fl_neq, fl_nclamp, fl_nin, fl_ltT, fl_ltF, fl_leT, fl_leF, fl_eqT, fl_eqF, decide_true, decide_false, Bool.true_and, Bool.and_true, Bool.false_and, Bool.and_false, if_true, if_false, Bool.false_eq_true, Option.isSome_some, Option.getD_some, not_true_eq_false, not_false_eq_true, Option.toList_some, Option.toList_none, List.cons_append, List.nil_append, fl_nmod, ih, fbP_183_15]
      · have ih : fl_cl fl_C 183 _ h = _ := ih'; show fl_cl fl_C 184 _ h = _; rw [fbE_184]; simp (disch := omega) only [fl_lit, fl_nadd, fl_nmul, fl_ndiv, fl_nsub, fl_msub, fl_nle, fl_nlt, fl_neq, fl_nclamp, fl_nin, fl_ltT, fl_ltF, fl_leT, fl_leF, fl_eqT, fl_eqF, decide_true, decide_false, Bool.true_and, Bool.and_true, Bool.false_and, Bool.and_false, if_true, if_false, Bool.false_eq_true, Option.isSome_some, Option.getD_some, not_true_eq_false, not_false_eq_true, Option.toList_some, Option.toList_none, List.cons_append, List.nil_append, fl_nmod, ih, fbP_184_15]
      · have ih : fl_cl fl_C 184 _ h = _ := ih'; show fl_cl fl_C 185 _ h = _; rw [fbE_185]; simp (disch := omega) only [fl_lit, fl_nadd, fl_nmul, fl_ndiv, fl_nsub, fl_msub, fl_nle, fl_nlt, fl_neq, fl_nclamp, fl_nin, fl_ltT, fl_ltF, fl_leT, fl_leF, fl_eqT, fl_eqF, decide_true, decide_false, Bool.true_and, Bool.and_true, Bool.false_and, Bool.and_false, if_true, if_false, Bool.false_eq_true, Option.isSome_some, Option.getD_some, not_true_eq_false, not_false_eq_true, Option.toList_some, Option.toList_none, List.cons_append, List.nil_append, fl_nmod, ih, fbP_185_15]
      · have ih : fl_cl fl_C 185 _ h = _ := ih'; show fl_cl fl_C 186 _ h = _; rw [fbE_186]; simp (disch := omega) only [fl_lit, fl_nadd, fl_nmul, fl_ndiv, fl_nsub, fl_msub, fl_nle, fl_nlt, fl_neq, fl_nclamp, fl_nin, fl_ltT, fl_ltF, fl_leT, fl_leF, fl_eqT, fl_eqF, decide_true, decide_false, Bool.true_and, Bool.and_true, Bool.false_and, Bool.and_false, if_true, if_false, Bool.false_eq_true, Option.isSome_some, Option.getD_some, not_true_eq_false, not_false_eq_true, Option.toList_some, Option.toList_none, List.cons_append, List.nil_append, fl_nmod, ih, fbP_186_15]
      · have ih : fl_cl fl_C 186 _ h = _ := ih'; show fl_cl fl_C 187 _ h = _; rw [fbE_187]; simp (disch := omega) only [fl_lit, fl_nadd, fl_nmul, fl_ndiv, fl_nsub, fl_msub, fl_nle, fl_nlt, fl_neq, fl_nclamp, fl_nin, fl_ltT, fl_ltF, fl_leT, fl_leF, fl_eqT, fl_eqF, decide_true, decide_false, Bool.true_and, Bool.and_true, Bool.false_and, Bool.and_false, if_true, if_false, Bool.false_eq_true, Option.isSome_some, Option.getD_some, not_true_eq_false, not_false_eq_true, Option.toList_some, Option.toList_none, List.cons_append, List.nil_append, fl_nmod, ih, fbP_187_15]
end
section
variable {k0 : Nat → Nat × Nat} {h h' : fl_H} {c : Nat × Nat × Nat × Bool}
def fl_smq (g : Nat → Nat) (f : Nat) : Bool := fl_any (fl_shn g f (fl_ps g)) (g 76)
def fl_sma (g : Nat → Nat) (k r : Nat) (j : Nat) : Nat := fl_cnt (fun i => fl_smq g (r + i * k)) j
theorem fl_dec1 {d : Nat} : Int32.ofNat (d + 1) + -Int32.ofNat 1 = Int32.ofNat d := by
  rw [← Int32.sub_eq_add_neg, fl_nsub (by omega)]; rfl
theorem fc_174e (hg : fl_g k0 h) (e1 : fl_i h 4 1 = Int32.ofNat 6) {d : Nat} (hd : d ≤ 1) (A B : Int32) : fl_Rn fl_C 174 92 [some (.ref 0), none, none, some (.int A), some (.int B), some (.int (Int32.ofNat d))] [] h = some (some (some (.int (Int32.ofNat 0))), fl_ca2 h (Int32.toInt64 A) (Int32.toInt64 B)) := by
  have t1 := fc_ca1 hg e1 (Int32.toInt64 A)
  have t2 := fc_ca2 hg e1 (Int32.toInt64 A) (Int32.toInt64 B)
  have g1 := fl_df_g hg (fl_ca1_df (A := Int32.toInt64 A))
  have o4 : fl_KK k0 4 = (1, 5) := fl_o4.1.1
  generalize fl_ca2 h (Int32.toInt64 A) (Int32.toInt64 B) = H2 at *
  generalize fl_ca1 h (Int32.toInt64 A) = H1 at *
  rw [fbC_174_92]
  simp (disch := omega) only [hg.1, hg.2, fl_KF, fl_RF, o4, fl_lit, fl_nadd, fl_nmul, fl_ndiv, fl_nsub, fl_msub, fl_nle, fl_nlt, fl_neq, fl_nclamp, fl_nin, fl_ltT, fl_ltF, fl_leT, fl_leF, fl_eqT, fl_eqF, decide_true, decide_false, Bool.true_and, Bool.and_true, Bool.false_and, Bool.and_false, if_true, if_false, Bool.false_eq_true, Option.isSome_some, Option.getD_some, not_true_eq_false, not_false_eq_true, Option.toList_some, Option.toList_none, List.cons_append, List.nil_append, t1, fbP_174_137, g1.1, g1.2, t2, fbP_174_147]
theorem fc_174r (hg : fl_g k0 h) (e1 : fl_i h 4 1 = Int32.ofNat 6) : ∀ d A B, d ≤ 64 → A ≤ 64 → B ≤ 64 → fl_Rn fl_C 174 92 [some (.ref 0), none, none, some (.int (Int32.ofNat A)), some (.int (Int32.ofNat B)), some (.int (Int32.ofNat d))] [] h = some (some (some (.int (Int32.ofNat 0))), fl_ca2 h (Int32.toInt64 (Int32.ofNat (fl_red d A B).1)) (Int32.toInt64 (Int32.ofNat (fl_red d A B).2))) 
  | 0, A, B, _, _, _ => fc_174e hg e1 (Nat.zero_le 1) _ _
  | d + 1, A, B, hd, hA, hB => by
    by_cases c1 : d + 1 ≤ 1
    · rw [fl_red, if_pos c1]; exact fc_174e hg e1 c1 _ _
    · rw [fl_red, if_neg c1]
      have m1 := Nat.mod_le A (d + 1)
      have m2 := Nat.mod_le B (d + 1)
      have v1 := Nat.div_le_self A (d + 1)
      have v2 := Nat.div_le_self B (d + 1)
      have i1 := fc_174r hg e1 d A B (by omega) hA hB
      have i2 := fc_174r hg e1 d (A / (d + 1)) (B / (d + 1)) (by omega) (by omega) (by omega)
      by_cases z1 : A % (d + 1) = 0
      · by_cases z2 : B % (d + 1) = 0
        · rw [if_pos ⟨z1, z2⟩, fbC_174_92]
          simp (disch := omega) only [fl_lit, fl_nadd, fl_nmul, fl_ndiv, fl_nsub, fl_msub, fl_nle, fl_nlt, fl_neq, fl_nclamp, fl_nin, fl_ltT, fl_ltF, fl_leT, fl_leF, fl_eqT, fl_eqF, decide_true, decide_false, Bool.true_and, Bool.and_true, Bool.false_and, Bool.and_false, if_true, if_false, Bool.false_eq_true, Option.isSome_some, Option.getD_some, not_true_eq_false, not_false_eq_true, Option.toList_some, Option.toList_none, List.cons_append, List.nil_append, fl_nmod, z1, z2, fbC_174_125, fl_dec1, i2]
        · rw [if_neg (fun z => z2 z.2), fbC_174_92]
          simp (disch := omega) only [fl_lit, fl_nadd, fl_nmul, fl_ndiv, fl_nsub, fl_msub, fl_nle, fl_nlt, fl_neq, fl_nclamp, fl_nin, fl_ltT, fl_ltF, fl_leT, fl_leF, fl_eqT, fl_eqF, decide_true, decide_false, Bool.true_and, Bool.and_true, Bool.false_and, Bool.and_false, if_true, if_false, Bool.false_eq_true, Option.isSome_some, Option.getD_some, not_true_eq_false, not_false_eq_true, Option.toList_some, Option.toList_none, List.cons_append, List.nil_append, fl_nmod, z1, fbC_174_125, fl_dec1, i1]
      · rw [if_neg (fun z => z1 z.1), fbC_174_92]
        simp (disch := omega) only [fl_lit, fl_nadd, fl_nmul, fl_ndiv, fl_nsub, fl_msub, fl_nle, fl_nlt, fl_neq, fl_nclamp, fl_nin, fl_ltT, fl_ltF, fl_leT, fl_leF, fl_eqT, fl_eqF, decide_true, decide_false, Bool.true_and, Bool.and_true, Bool.false_and, Bool.and_false, if_true, if_false, Bool.false_eq_true, Option.isSome_some, Option.getD_some, not_true_eq_false, not_false_eq_true, Option.toList_some, Option.toList_none, List.cons_append, List.nil_append, fl_nmod, fbC_174_125, fl_dec1, i1]
/-- what sample is asked as it may be -/
def fl_smo (p0 p1 : Int32) : Prop := ∃ k r, p0 = Int32.ofNat k ∧ p1 = Int32.ofNat r ∧ 1 ≤ k ∧ k ≤ 8 ∧ r < k
theorem fo_sample_a0 {p0 p1 : Int32} (n : ¬ fl_smo p0 p1) : fl_cl fl_C 174 [.ref 0, .int p0, .int p1] h = some (some (some (.int (-1))), h) := by
  rw [fbE_174]
  by_cases a1 : p0 < 1
  · rw [fl_ifd a1, fbC_174_20]
  · rw [fl_ifn a1]
    by_cases a2 : 8 < p0
    · rw [fl_ifd a2, fbC_174_20]
    · rw [fl_ifn a2]
      by_cases a3 : p1 < 0
      · rw [fl_ifd a3, fbC_174_20]
      · rw [fl_ifn a3]
        by_cases a4 : p1 < p0
        · exfalso
          apply n
          rw [Int32.lt_iff_toInt_lt] at a1 a2 a4
          rw [show (1 : Int32).toInt = 1 from rfl] at a1
          rw [show (8 : Int32).toInt = 8 from rfl] at a2
          have l0 : ¬ p0 < 0 := by rw [fl_i32_lt0]; omega
          have n0 := fl_i32_nat l0
          have n1 := fl_i32_nat a3
          refine ⟨p0.toNatClampNeg, p1.toNatClampNeg, ?_, ?_, by omega, by omega, by omega⟩
          · apply Int32.toInt_inj.mp; rw [fl_toI (by omega)]; omega
          · apply Int32.toInt_inj.mp; rw [fl_toI (by omega)]; omega
        · rw [fl_ifn a4, fbC_174_20]
theorem fo_sample_b0 (hg : fl_g k0 h) {p0 p1 : Int32} (n : ¬ fl_smo p0 p1) : fl_cl fl_C 188 [.ref 259, .int p0, .int p1] h = some (some (some (.int (-1))), fl_wi h 259 (fl_up (fl_i h 259) 0 (Int32.ofNat 0))) := by
  have e37 := fr_37 (h := fl_wi h 259 (fl_up (fl_i h 259) 0 (Int32.ofNat 0))) (Int32.toInt64 p0) 1 8
  by_cases c1 : (1 : Int64) ≤ Int32.toInt64 p0 ∧ Int32.toInt64 p0 ≤ 8
  · rw [if_pos c1] at e37
    rw [Int64.le_iff_toInt_le, Int64.le_iff_toInt_le, fl_toI64, show (1 : Int64).toInt = 1 from rfl, show (8 : Int64).toInt = 8 from rfl] at c1
    have l0 : ¬ p0 < 0 := by rw [fl_i32_lt0]; omega
    have n0 := fl_i32_nat l0
    have ek : p0 = Int32.ofNat p0.toNatClampNeg := by apply Int32.toInt_inj.mp; rw [fl_toI (by omega)]; omega
    have kb : p0.toNatClampNeg ≤ 8 := by omega
    generalize p0.toNatClampNeg = k at *
    subst ek
    rw [fl_toI (by omega)] at n0 c1
    have ew := fl_in64 (n := k) (by omega) p1
    have e37b := fr_37 (h := fl_wi h 259 (fl_up (fl_i h 259) 0 (Int32.ofNat 0))) (Int32.toInt64 p1) 0 (Int32.toInt64 (Int32.ofNat k - Int32.ofNat 1))
    by_cases c2 : fl_in p1 k = true
    · obtain ⟨r, hr, rfl⟩ := fl_in_ex c2
      exact absurd ⟨k, r, rfl, rfl, by omega, by omega, hr⟩ n
    · rw [if_neg (fun z => c2 (ew.mp z))] at e37b
      have e37c : fl_cl fl_C 37 [.long (Int32.toInt64 p1), .long 0, .long (Int32.toInt64 (Int32.ofNat (k - 1)))] (fl_wi h 259 (fl_up (fl_i h 259) 0 (Int32.ofNat 0))) = some (some (some (.int (Int32.ofNat 0))), fl_wi h 259 (fl_up (fl_i h 259) 0 (Int32.ofNat 0))) := by
        rw [fl_nsub (by omega)] at e37b; exact e37b
      clear e37b n ew
      rw [fbE_188]
      simp (disch := omega) only [fl_k_wl, fl_r_wl, fl_i_wl, fl_l_wl, fl_1_wl, fl_k_wi, fl_r_wi, fl_l_wi, fl_1_wi, fl_i_wi, fl_k_si, fl_r_si, fl_l_si, fl_k_sl, fl_r_sl, fl_i_sl, fl_up_self, fl_up_ne, fl_si_wi, fl_sl_wl, fl_wi_wi, fl_wl_wl, hg.1, hg.2, fl_KM, fl_RM, fl_lit, fl_nadd, fl_nmul, fl_ndiv, fl_nsub, fl_msub, fl_nle, fl_nlt, fl_neq, fl_nclamp, fl_nin, fl_ltT, fl_ltF, fl_leT, fl_leF, fl_eqT, fl_eqF, decide_true, decide_false, Bool.true_and, Bool.and_true, Bool.false_and, Bool.and_false, if_true, if_false, Bool.false_eq_true, Option.isSome_some, Option.getD_some, not_true_eq_false, not_false_eq_true, Option.toList_some, Option.toList_none, List.cons_append, List.nil_append, fbC_188_5, e37, fbP_188_14, e37c, fbP_188_27, fbC_188_30]
  · rw [if_neg c1] at e37
    clear n
    rw [fbE_188]
    simp (disch := omega) only [fl_k_wl, fl_r_wl, fl_i_wl, fl_l_wl, fl_1_wl, fl_k_wi, fl_r_wi, fl_l_wi, fl_1_wi, fl_i_wi, fl_k_si, fl_r_si, fl_l_si, fl_k_sl, fl_r_sl, fl_i_sl, fl_up_self, fl_up_ne, fl_si_wi, fl_sl_wl, fl_wi_wi, fl_wl_wl, hg.1, hg.2, fl_KM, fl_RM, fl_lit, fl_nadd, fl_nmul, fl_ndiv, fl_nsub, fl_msub, fl_nle, fl_nlt, fl_neq, fl_nclamp, fl_nin, fl_ltT, fl_ltF, fl_leT, fl_leF, fl_eqT, fl_eqF, decide_true, decide_false, Bool.true_and, Bool.and_true, Bool.false_and, Bool.and_false, if_true, if_false, Bool.false_eq_true, Option.isSome_some, Option.getD_some, not_true_eq_false, not_false_eq_true, Option.toList_some, Option.toList_none, List.cons_append, List.nil_append, fbC_188_5, e37, fbP_188_14, fbC_188_30]
theorem fo_sample_a {g : Nat → Nat} {s : Int64} (hg : fl_g k0 h) (w : fl_wf g) (d : fl_rn h 27 g s) (e1 : fl_i h 4 1 = Int32.ofNat 6) {k r n : Nat} (hk : 1 ≤ k ∧ k ≤ 8) (hr : r < k) (hn : n ≤ 64) (h1 : ∀ j, j < n → r + j * k < 2 * (g 0 + g 2)) (h2 : 2 * (g 0 + g 2) ≤ r + n * k) : fl_cl fl_C 174 [.ref 0, .int (Int32.ofNat k), .int (Int32.ofNat r)] h = if n = 0 then some (some (some (.int (-Int32.ofNat 2))), h) else some (some (some (.int (Int32.ofNat 0))), fl_ca2 h (Int32.toInt64 (Int32.ofNat (fl_red n (fl_sma g k r n) n).1)) (Int32.toInt64 (Int32.ofNat (fl_red n (fl_sma g k r n) n).2))) := by
  have O := fl_o27 (k0 := k0)
  have w0 : g 0 ≤ 12 := w.1.2.2.2.1
  have w2 : g 2 ≤ 20 := w.1.2.2.2.2.1
  have e66 := fc_66 hg O.2.1 w d.1
  have ol : fl_KK k0 27 = (1, 7) ∧ fl_RR 27 0 = some (27 + 1) := ⟨O.1.1, O.1.2.1⟩
  have o28 : fl_KK k0 (27 + 1) = (1, 4) := O.2.1.1.1
  have l5 := d.2.2.1.1
  have sa : ∀ j, fl_sma g k r j ≤ j := fun j => fl_cnt_le j
  have hk8 : ∀ j, j ≤ n → j * k ≤ 64 * 8 := fun j hj => Nat.mul_le_mul (by omega) hk.2
  have lp := fl_iter (fun j => fl_Rn fl_C 174 30 [some (.ref 0), some (.int (Int32.ofNat k)), none, some (.int (Int32.ofNat (fl_sma g k r j))), some (.int (Int32.ofNat j)), some (.int (Int32.ofNat (r + j * k)))] [] h) n (by
    intro j hj
    have lt := h1 j hj
    have saj := sa j
    have e120 := fc_120 (h := h) (fl_l h 27 5) (f := r + j * k) (by omega)
    rw [l5, fl_hb_B _ (by omega), decide_eq_true lt, Bool.true_and] at e120
    have ss : fl_sma g k r (j + 1) = fl_sma g k r j + (fl_smq g (r + j * k)).toNat := rfl
    have mm : r + (j + 1) * k = r + j * k + k := by rw [Nat.add_mul]; omega
    try dsimp only
    rw [ss, mm]
    clear sa hk8 h1 w d O
    rw [fbC_174_30]
    have eq : fl_any (fl_shn g (r + j * k) (fl_ps g)) (g 76) = fl_smq g (r + j * k) := rfl
    rw [eq] at e120
    cases c : fl_smq g (r + j * k) with
    | true =>
      rw [c, if_pos rfl] at e120
      simp (disch := omega) only [hg.1, hg.2, fl_KF, fl_RF, ol, o28, fl_lit, fl_nadd, fl_nmul, fl_ndiv, fl_nsub, fl_msub, fl_nle, fl_nlt, fl_neq, fl_nclamp, fl_nin, fl_ltT, fl_ltF, fl_leT, fl_leF, fl_eqT, fl_eqF, decide_true, decide_false, Bool.true_and, Bool.and_true, Bool.false_and, Bool.and_false, if_true, if_false, Bool.false_eq_true, Option.isSome_some, Option.getD_some, not_true_eq_false, not_false_eq_true, Option.toList_some, Option.toList_none, List.cons_append, List.nil_append, e66, fbP_174_42, l5, e120, fbP_174_61, Bool.toNat_true]
    | false =>
      rw [c, if_neg (by decide)] at e120
      simp (disch := omega) only [hg.1, hg.2, fl_KF, fl_RF, ol, o28, fl_lit, fl_nadd, fl_nmul, fl_ndiv, fl_nsub, fl_msub, fl_nle, fl_nlt, fl_neq, fl_nclamp, fl_nin, fl_ltT, fl_ltF, fl_leT, fl_leF, fl_eqT, fl_eqF, decide_true, decide_false, Bool.true_and, Bool.and_true, Bool.false_and, Bool.and_false, if_true, if_false, Bool.false_eq_true, Option.isSome_some, Option.getD_some, not_true_eq_false, not_false_eq_true, Option.toList_some, Option.toList_none, List.cons_append, List.nil_append, e66, fbP_174_42, l5, e120, fbP_174_61, Bool.toNat_false])
  have fin := fc_174r hg e1 n (fl_sma g k r n) n hn (by have := sa n; omega) hn
  have sn := sa n
  have kn := hk8 n (Nat.le_refl _)
  clear w d O sa hk8 h1
  have st : fl_cl fl_C 174 [.ref 0, .int (Int32.ofNat k), .int (Int32.ofNat r)] h = fl_Rn fl_C 174 30 [some (.ref 0), some (.int (Int32.ofNat k)), none, some (.int (Int32.ofNat (fl_sma g k r 0))), some (.int (Int32.ofNat 0)), some (.int (Int32.ofNat (r + 0 * k)))] [] h := by
    have z : fl_sma g k r 0 = 0 := rfl
    rw [z, Nat.zero_mul, Nat.add_zero, fbE_174]
    simp (disch := omega) only [fl_lit, fl_nadd, fl_nmul, fl_ndiv, fl_nsub, fl_msub, fl_nle, fl_nlt, fl_neq, fl_nclamp, fl_nin, fl_ltT, fl_ltF, fl_leT, fl_leF, fl_eqT, fl_eqF, decide_true, decide_false, Bool.true_and, Bool.and_true, Bool.false_and, Bool.and_false, if_true, if_false, Bool.false_eq_true, Option.isSome_some, Option.getD_some, not_true_eq_false, not_false_eq_true, Option.toList_some, Option.toList_none, List.cons_append, List.nil_append]
  rw [st, lp]
  try dsimp only
  rw [fbC_174_30]
  by_cases z : n = 0
  · rw [if_pos z]
    simp (disch := omega) only [hg.1, hg.2, fl_KF, fl_RF, ol, o28, fl_lit, fl_nadd, fl_nmul, fl_ndiv, fl_nsub, fl_msub, fl_nle, fl_nlt, fl_neq, fl_nclamp, fl_nin, fl_ltT, fl_ltF, fl_leT, fl_leF, fl_eqT, fl_eqF, decide_true, decide_false, Bool.true_and, Bool.and_true, Bool.false_and, Bool.and_false, if_true, if_false, Bool.false_eq_true, Option.isSome_some, Option.getD_some, not_true_eq_false, not_false_eq_true, Option.toList_some, Option.toList_none, List.cons_append, List.nil_append, e66, fbP_174_42]
  · rw [if_neg z]
    simp (disch := omega) only [hg.1, hg.2, fl_KF, fl_RF, ol, o28, fl_lit, fl_nadd, fl_nmul, fl_ndiv, fl_nsub, fl_msub, fl_nle, fl_nlt, fl_neq, fl_nclamp, fl_nin, fl_ltT, fl_ltF, fl_leT, fl_leF, fl_eqT, fl_eqF, decide_true, decide_false, Bool.true_and, Bool.and_true, Bool.false_and, Bool.and_false, if_true, if_false, Bool.false_eq_true, Option.isSome_some, Option.getD_some, not_true_eq_false, not_false_eq_true, Option.toList_some, Option.toList_none, List.cons_append, List.nil_append, e66, fbP_174_42, fin]
theorem fo_sample_b {g : Nat → Nat} (hg : fl_g k0 h) (m : fl_mm h g) (w : fl_wf g) {k r n : Nat} (hk : 1 ≤ k ∧ k ≤ 8) (hr : r < k) (hn : n ≤ 64) (h1 : ∀ j, j < n → r + j * k < 2 * (g 0 + g 2)) (h2 : 2 * (g 0 + g 2) ≤ r + n * k) : ∃ y, fl_qt h y ∧ fl_cl fl_C 188 [.ref 259, .int (Int32.ofNat k), .int (Int32.ofNat r)] h = if n = 0 then some (some (some (.int (-Int32.ofNat 2))), y) else some (some (some (.int (Int32.ofNat 0))), fl_ra2 y (Int32.toInt64 (Int32.ofNat (fl_sma g k r n / fl_eu 12 n (fl_sma g k r n)))) (Int32.toInt64 (Int32.ofNat (n / fl_eu 12 n (fl_sma g k r n))))) := by
  have w0 : g 0 ≤ 12 := w.1.2.2.2.1
  have w2 : g 2 ≤ 20 := w.1.2.2.2.2.1
  have w7 : g 76 ≤ 24 := w.1.2.2.2.2.2.2.2.1
  have q0 := fl_qt_0 (h := h) (x := Int32.ofNat 0)
  have g0 := fl_qo_g hg (fl_qt_qo q0)
  have m0 := fl_qo_mm m (fl_qt_qo q0)
  obtain ⟨rr, y, e141, rfl, ay⟩ := fr_141 g0 m0 w
  have qy := fl_qt_all ay
  have gy := fl_qo_g g0 (fl_qt_qo qy)
  have my := fl_qo_mm m0 (fl_qt_qo qy)
  have e88 := fr_88 gy my
  have f271 : ∀ f, f < 2 * (g 0 + g 2) → fl_i y 271 f = fl_oi (fl_smq g f) (fl_frst (fl_shn g f (fl_ps g)) (g 76)) := fun f hf => (ay.2.2.2.2 f hf).1
  have fle : ∀ f, fl_frst (fl_shn g f (fl_ps g)) (g 76) ≤ 24 := fun f => Nat.le_trans (fl_frst_le (g 76)) w7
  refine ⟨y, fl_qt_tr q0 qy, ?_⟩
  have sa : ∀ j, fl_sma g k r j ≤ j := fun j => fl_cnt_le j
  have hk8 : ∀ j, j ≤ n → j * k ≤ 64 * 8 := fun j hj => Nat.mul_le_mul (by omega) hk.2
  clear ay qy my m0 m w
  have e37 := fr_37 (h := fl_wi h 259 (fl_up (fl_i h 259) 0 (Int32.ofNat 0))) (Int32.toInt64 (Int32.ofNat k)) 1 8
  rw [if_pos (by
    rw [Int64.le_iff_toInt_le, Int64.le_iff_toInt_le, fl_toI64, fl_toI (by omega), show (1 : Int64).toInt = 1 from rfl, show (8 : Int64).toInt = 8 from rfl]; omega)] at e37
  have ew := fl_in64 (n := k) (by omega) (Int32.ofNat r)
  have e37b := fr_37 (h := fl_wi h 259 (fl_up (fl_i h 259) 0 (Int32.ofNat 0))) (Int32.toInt64 (Int32.ofNat r)) 0 (Int32.toInt64 (Int32.ofNat k - Int32.ofNat 1))
  rw [if_pos (ew.mpr (by rw [fl_nin (by omega)]; exact decide_eq_true hr)), fl_nsub (by omega)] at e37b
  have lp := fl_iter (fun j => fl_Rn fl_C 188 44 [some (.ref 259), some (.int (Int32.ofNat k)), none, some (.int (Int32.ofNat j)), some (.int (Int32.ofNat (fl_sma g k r j))), some (.int (Int32.ofNat (r + j * k)))] [] y) n (by
    intro j hj
    have lt := h1 j hj
    have saj := sa j
    have f1 := f271 (r + j * k) lt
    have f2 := fle (r + j * k)
    have f3 := fl_oi_lt (b := fl_smq g (r + j * k)) (t := fl_frst (fl_shn g (r + j * k) (fl_ps g)) (g 76)) (by omega)
    have ss : fl_sma g k r (j + 1) = fl_sma g k r j + (fl_smq g (r + j * k)).toNat := rfl
    have mm : r + (j + 1) * k = r + j * k + k := by rw [Nat.add_mul]; omega
    have f0 := fr_79 (h := y) (Int32.ofNat 0)
    have f9 := fr_79 (h := y) (Int32.ofNat 1)
    try dsimp only
    rw [ss, mm]
    clear sa hk8 h1 f271 fle e37 e37b ew e141
    rw [if_pos rfl] at f0
    rw [if_neg (by decide)] at f9
    rw [fbC_188_44]
    cases c : fl_smq g (r + j * k) with
    | true =>
      rw [c] at f1 f3
      simp (disch := omega) only [gy.1, gy.2, fl_KM, fl_RM, fl_lit, fl_nadd, fl_nmul, fl_ndiv, fl_nsub, fl_msub, fl_nle, fl_nlt, fl_neq, fl_nclamp, fl_nin, fl_ltT, fl_ltF, fl_leT, fl_leF, fl_eqT, fl_eqF, decide_true, decide_false, Bool.true_and, Bool.and_true, Bool.false_and, Bool.and_false, if_true, if_false, Bool.false_eq_true, Option.isSome_some, Option.getD_some, not_true_eq_false, not_false_eq_true, Option.toList_some, Option.toList_none, List.cons_append, List.nil_append, e88, fbP_188_50, f1, f3, Bool.true_eq_false, f9, fbP_188_76, Bool.toNat_true]
    | false =>
      rw [c] at f1 f3
      simp (disch := omega) only [gy.1, gy.2, fl_KM, fl_RM, fl_lit, fl_nadd, fl_nmul, fl_ndiv, fl_nsub, fl_msub, fl_nle, fl_nlt, fl_neq, fl_nclamp, fl_nin, fl_ltT, fl_ltF, fl_leT, fl_leF, fl_eqT, fl_eqF, decide_true, decide_false, Bool.true_and, Bool.and_true, Bool.false_and, Bool.and_false, if_true, if_false, Bool.false_eq_true, Option.isSome_some, Option.getD_some, not_true_eq_false, not_false_eq_true, Option.toList_some, Option.toList_none, List.cons_append, List.nil_append, e88, fbP_188_50, f1, f3, f0, fbP_188_76, Bool.toNat_false])
  have st : fl_cl fl_C 188 [.ref 259, .int (Int32.ofNat k), .int (Int32.ofNat r)] h = fl_Rn fl_C 188 44 [some (.ref 259), some (.int (Int32.ofNat k)), none, some (.int (Int32.ofNat 0)), some (.int (Int32.ofNat (fl_sma g k r 0))), some (.int (Int32.ofNat (r + 0 * k)))] [] y := by
    have z : fl_sma g k r 0 = 0 := rfl
    clear lp f271 fle sa hk8 h1 ew
    rw [z, Nat.zero_mul, Nat.add_zero, fbE_188]
    simp (disch := omega) only [fl_k_wl, fl_r_wl, fl_i_wl, fl_l_wl, fl_1_wl, fl_k_wi, fl_r_wi, fl_l_wi, fl_1_wi, fl_i_wi, fl_k_si, fl_r_si, fl_l_si, fl_k_sl, fl_r_sl, fl_i_sl, fl_up_self, fl_up_ne, fl_si_wi, fl_sl_wl, fl_wi_wi, fl_wl_wl, hg.1, hg.2, g0.1, fl_KM, fl_RM, fl_lit, fl_nadd, fl_nmul, fl_ndiv, fl_nsub, fl_msub, fl_nle, fl_nlt, fl_neq, fl_nclamp, fl_nin, fl_ltT, fl_ltF, fl_leT, fl_leF, fl_eqT, fl_eqF, decide_true, decide_false, Bool.true_and, Bool.and_true, Bool.false_and, Bool.and_false, if_true, if_false, Bool.false_eq_true, Option.isSome_some, Option.getD_some, not_true_eq_false, not_false_eq_true, Option.toList_some, Option.toList_none, List.cons_append, List.nil_append, fbC_188_5, e37, fbP_188_14, e37b, fbP_188_27, e141, fbP_188_36]
  have sn := sa n
  have kn := hk8 n (Nat.le_refl _)
  rw [st, lp]
  try dsimp only
  clear st lp f271 fle sa hk8 h1 ew e37 e37b e141
  rw [fbC_188_44]
  by_cases z : n = 0
  · rw [if_pos z]
    simp (disch := omega) only [gy.1, gy.2, fl_KM, fl_RM, fl_lit, fl_nadd, fl_nmul, fl_ndiv, fl_nsub, fl_msub, fl_nle, fl_nlt, fl_neq, fl_nclamp, fl_nin, fl_ltT, fl_ltF, fl_leT, fl_leF, fl_eqT, fl_eqF, decide_true, decide_false, Bool.true_and, Bool.and_true, Bool.false_and, Bool.and_false, if_true, if_false, Bool.false_eq_true, Option.isSome_some, Option.getD_some, not_true_eq_false, not_false_eq_true, Option.toList_some, Option.toList_none, List.cons_append, List.nil_append, e88, fbP_188_50]
  · rw [if_neg z]
    have gk := fl_gok_all n (by omega) (fl_sma g k r n) (by omega)
    have gk2 : fl_gok (fl_sma g k r n) n = true := by
      rcases gk with e | e | e
      · omega
      · omega
      · exact e
    unfold fl_gok at gk2
    rw [Bool.and_eq_true, Bool.and_eq_true, Bool.and_eq_true] at gk2
    have cm := fr_com (h := y) 12 (by omega) n (fl_sma g k r n) (by omega) (by omega) gk2.1.1.1
    rw [show 175 + 12 = 187 from rfl] at cm
    have c0 := of_decide_eq_true gk2.1.1.2
    have c64 := of_decide_eq_true gk2.1.2
    clear gk gk2
    generalize fl_eu 12 n (fl_sma g k r n) = e at *
    generalize fl_sma g k r n = A at *
    have v1 := Nat.div_le_self A e
    have v2 := Nat.div_le_self n e
    have t1 := fr_ra1 gy (Int32.toInt64 (Int32.ofNat (A / e)))
    have t2 := fr_ra2 gy (Int32.toInt64 (Int32.ofNat (A / e))) (Int32.toInt64 (Int32.ofNat (n / e)))
    have ga := fl_a0_g gy
    have g1 := fl_df_g gy (fl_ra1_df (A := Int32.toInt64 (Int32.ofNat (A / e))))
    generalize fl_ra2 y (Int32.toInt64 (Int32.ofNat (A / e))) (Int32.toInt64 (Int32.ofNat (n / e))) = Y2 at *
    generalize fl_ra1 y (Int32.toInt64 (Int32.ofNat (A / e))) = Y1 at *
    simp (disch := omega) only [fl_k_wl, fl_r_wl, fl_i_wl, fl_l_wl, fl_1_wl, fl_k_wi, fl_r_wi, fl_l_wi, fl_1_wi, fl_i_wi, fl_k_si, fl_r_si, fl_l_si, fl_k_sl, fl_r_sl, fl_i_sl, fl_up_self, fl_up_ne, fl_si_wi, fl_sl_wl, fl_wi_wi, fl_wl_wl, gy.1, gy.2, fl_KM, fl_RM, fl_lit, fl_nadd, fl_nmul, fl_ndiv, fl_nsub, fl_msub, fl_nle, fl_nlt, fl_neq, fl_nclamp, fl_nin, fl_ltT, fl_ltF, fl_leT, fl_leF, fl_eqT, fl_eqF, decide_true, decide_false, Bool.true_and, Bool.and_true, Bool.false_and, Bool.and_false, if_true, if_false, Bool.false_eq_true, Option.isSome_some, Option.getD_some, not_true_eq_false, not_false_eq_true, Option.toList_some, Option.toList_none, List.cons_append, List.nil_append, e88, fbP_188_50, cm, fbP_188_101, fl_a0_w, fbC_188_108, ga.1, t1, fbP_188_118, g1.1, t2, fbP_188_127]
theorem fo_sample (I : fl_Inv k0 c h) (p0 p1 : Int32) : fl_both k0 c 174 188 [.int p0, .int p1] [.int p0, .int p1] h := by
  obtain ⟨rn, rv, iO⟩ := I.2.2.2.1
  obtain ⟨g, g1, g2, b1, b2, s, s1, s2, iG⟩ := I.2.2.2.2.2
  have w := iG.1
  have w0 : g 0 ≤ 12 := w.1.2.2.2.1
  have w2 : g 2 ≤ 20 := w.1.2.2.2.2.1
  by_cases V : fl_smo p0 p1
  · obtain ⟨k, r, rfl, rfl, k1, k8, hr⟩ := V
    obtain ⟨n, hn, h1, h2⟩ := fl_stp (2 * (g 0 + g 2)) k k1 64 r (by omega)
    have a := fo_sample_a I.1 w iG.2.2.2.1 iO.2.2.1 ⟨k1, k8⟩ hr hn h1 h2
    by_cases z : n = 0
    · rw [if_pos z] at a
      obtain ⟨y, q, b⟩ := fo_sample_b I.1 iG.2.1 w ⟨k1, k8⟩ hr hn h1 h2
      rw [if_pos z] at b
      exact ⟨_, _, _, a, b, fl_Inv_qt I q⟩
    · rw [if_neg z] at a
      have sn : fl_sma g k r n ≤ n := fl_cnt_le n
      have gk := fl_gok_all n (by omega) (fl_sma g k r n) (by omega)
      have gk2 : fl_gok (fl_sma g k r n) n = true := by
        rcases gk with e | e | e
        · omega
        · omega
        · exact e
      unfold fl_gok at gk2
      rw [Bool.and_eq_true] at gk2
      have e := of_decide_eq_true gk2.2
      rw [e] at a
      have d1 := fl_ca2_df (h := h) (A := Int32.toInt64 (Int32.ofNat (fl_sma g k r n / fl_eu 12 n (fl_sma g k r n)))) (B := Int32.toInt64 (Int32.ofNat (n / fl_eu 12 n (fl_sma g k r n))))
      have v1 := fl_ca2_v (h := h) (A := Int32.toInt64 (Int32.ofNat (fl_sma g k r n / fl_eu 12 n (fl_sma g k r n)))) (B := Int32.toInt64 (Int32.ofNat (n / fl_eu 12 n (fl_sma g k r n))))
      obtain ⟨y, q, b⟩ := fo_sample_b (fl_df_g I.1 d1) (fun j hj => by rw [(d1.2.2.2 262 j (by omega)).1]; exact iG.2.1 j hj) w ⟨k1, k8⟩ hr hn h1 h2
      rw [if_neg z] at b
      refine ⟨_, _, _, a, b, ?_⟩
      generalize Int32.toInt64 (Int32.ofNat (fl_sma g k r n / fl_eu 12 n (fl_sma g k r n))) = A at *
      generalize Int32.toInt64 (Int32.ofNat (n / fl_eu 12 n (fl_sma g k r n))) = B at *
      have d2 := fl_ra2_df (h := y) (A := A) (B := B)
      have v2 := fl_ra2_v (h := y) (A := A) (B := B)
      have dq : fl_df fl_SQ (fl_ca2 h A B) (fl_ra2 y A B) := fl_df_tr (fl_df_qt q (fun q j z => Or.inl z)) (fl_df_mo d2 (fun q j z => fl_Sae_SQ z))
      have dm : fl_df (fun q j => fl_scr q j ∨ fl_Sae q j) (fl_ca2 h A B) (fl_ra2 y A B) := fl_df_tr (fl_df_qt q (fun q j z => Or.inl z)) (fl_df_mo d2 (fun q j z => Or.inr z))
      refine fl_Inv_sq I (fl_df_tr (fl_df_mo d1 (fun q j z => fl_Sc6_SQ z)) dq) ⟨2, fun j => if j = 0 then A else B, by omega, v2.1, by rw [(dm.2.2.2 4 1 (by omega)).1, (d1.2.2.2 4 1 (by omega)).1]; exact iO.2.2.1, by rw [(dm.2.2.2 4 2 (by omega)).1]; exact v1.1, fun j hj => ?_⟩
      rcases (show j = 0 ∨ j = 1 by omega) with e | e <;> subst e
      · exact ⟨v2.2.1, by rw [(dm.2.2.2 6 0 (by omega)).2]; exact v1.2.1⟩
      · exact ⟨v2.2.2, by rw [(dm.2.2.2 6 1 (by omega)).2]; exact v1.2.2⟩
  · have a := fo_sample_a0 (h := h) V
    have b := fo_sample_b0 I.1 V
    exact ⟨_, _, _, a, b, fl_Inv_qt I fl_qt_0⟩
end
