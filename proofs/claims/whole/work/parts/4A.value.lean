/-! value -/
def fl_vq (b : Bool) (v gv : Nat) : Bool := decide (v ≠ gv) && ((decide (v = 2) || decide (gv = 2)) == b)
def fl_vs (g : Nat → Nat) (b : Bool) (k : Nat) : Int64 := fl_B (fun c => decide (c < 2 * (g 0 + g 2)) && fl_vq b (fl_cvn g c k) (fl_vl g 64 (fl_ps g) (g 76 - 1) k))
theorem fl_vq0 {a b : Nat} (ha : a ≤ 2) (hb : b ≤ 2) : ((decide (a = 1) && decide (b = 0)) || (decide (a = 0) && decide (b = 1))) = fl_vq false a b := by
  rcases (show a = 0 ∨ a = 1 ∨ a = 2 by omega) with e | e | e <;> rcases (show b = 0 ∨ b = 1 ∨ b = 2 by omega) with e' | e' | e' <;> subst e <;> subst e' <;> rfl
theorem fl_vq1 {a b : Nat} (ha : a ≤ 2) (hb : b ≤ 2) : ((decide (a = 1) || decide (a = 0)) ^^ (decide (b = 1) || decide (b = 0))) = fl_vq true a b := by
  rcases (show a = 0 ∨ a = 1 ∨ a = 2 by omega) with e | e | e <;> rcases (show b = 0 ∨ b = 1 ∨ b = 2 by omega) with e' | e' | e' <;> subst e <;> subst e' <;> rfl
theorem fl_vq_self {b : Bool} {a : Nat} : fl_vq b a a = false := by
  unfold fl_vq; simp
section
variable {k0 : Nat → Nat × Nat} {h z : fl_H} {c : Nat × Nat × Nat × Bool}
theorem fr_160 {g : Nat → Nat} (hg : fl_g k0 z) (m : fl_mm z g) (w0 : g 0 ≤ 12) (w2 : g 2 ≤ 20) {n k gv : Nat} (hn : 0 < n) (hn2 : n ≤ 24) (hk : k < g 0) (h16 : fl_i z 259 16 = Int32.ofNat n) (hgv : gv ≤ 2) (h269 : fl_i z 269 (12 * (n - 1) + k) = Int32.ofNat gv) (b : Bool) (fv fd : Nat → Nat) (ad : Nat → Bool)
    (hf : ∀ f, f < 2 * (g 0 + g 2) → fl_i z 274 (12 * f + k) = Int32.ofNat (fv f) ∧ fl_i z 273 f = fl_oi (ad f) (fd f) ∧ fv f ≤ 2 ∧ (ad f = true → fd f < n ∧ (fd f + 1 < n → fv f = gv))) :
    fl_cl fl_C 160 [.ref 259, .int (Int32.ofNat k), .int (Int32.ofNat b.toNat)] z = some (some (some (.long (fl_bs (fun f => fl_vq b (fv f) gv) (2 * (g 0 + g 2))))), z) := by
  have e88 := fr_88 hg m
  have lp := fl_iter (fun f => fl_Rn fl_C 160 23 [some (.ref 259), some (.int (Int32.ofNat k)), some (.int (Int32.ofNat b.toNat)), some (.long (fl_bs (fun f => fl_vq b (fv f) gv) f)), none, some (.int (Int32.ofNat gv)), some (.int (Int32.ofNat f))] [] z) (2 * (g 0 + g 2)) (by
    intro f hf2
    try dsimp only
    obtain ⟨r4, r3, v2, ra⟩ := hf f hf2
    have hz := fun t (ht : t < 2147483648) => fl_oi_lt (b := ad f) (t := t) ht
    have e77 : ∀ x : Nat, x ≤ 1 → fl_Rn fl_C 160 77 [some (.ref 259), some (.int (Int32.ofNat k)), some (.int (Int32.ofNat b.toNat)), some (.long (fl_bs (fun f => fl_vq b (fv f) gv) f)), none, some (.int (Int32.ofNat gv)), some (.int (Int32.ofNat f)), some (.int (Int32.ofNat (fv f)))] [.int (Int32.ofNat x)] z = fl_Rn fl_C 160 23 [some (.ref 259), some (.int (Int32.ofNat k)), some (.int (Int32.ofNat b.toNat)), some (.long (fl_bs (fun f => fl_vq b (fv f) gv) f ||| (if (fl_vq b (fv f) gv && decide (x = 0)) = true then 1 <<< (Int32.toInt64 (Int32.ofNat f) &&& 63) else 0))), none, some (.int (Int32.ofNat gv)), some (.int (Int32.ofNat (f + 1)))] [] z := by
      intro x hx
      generalize fl_bs (fun f => fl_vq b (fv f) gv) f = A
      generalize fv f = v at v2
      clear hf m h269 h16 r4 r3 ra e88
      rcases (show v = 0 ∨ v = 1 ∨ v = 2 by omega) with e | e | e <;> subst e <;> rcases (show gv = 0 ∨ gv = 1 ∨ gv = 2 by omega) with e' | e' | e' <;> subst e' <;> cases b <;> rcases (show x = 0 ∨ x = 1 by omega) with e'' | e'' <;> subst e'' <;>
        (first
          | (rw [show (fl_vq _ _ _ && decide (_ = 0)) = true from rfl]; simp (disch := omega) only [fbC_160_77, fbC_160_98, fbC_160_103, fbC_160_111, fbC_160_112, fbC_160_132, fbC_160_133, fl_lit, fl_nadd, fl_nmul, fl_ndiv, fl_nsub, fl_msub, fl_nle, fl_nlt, fl_neq, fl_nclamp, fl_nin, fl_ltT, fl_ltF, fl_leT, fl_leF, fl_eqT, fl_eqF, decide_true, decide_false, Bool.true_and, Bool.and_true, Bool.false_and, Bool.and_false, if_true, if_false, Bool.false_eq_true, Option.isSome_some, Option.getD_some, not_true_eq_false, not_false_eq_true, Option.toList_some, Option.toList_none, List.cons_append, List.nil_append, Bool.toNat_true, Bool.toNat_false])
          | (rw [show (fl_vq _ _ _ && decide (_ = 0)) = false from rfl]; simp (disch := omega) only [fbC_160_77, fbC_160_98, fbC_160_103, fbC_160_111, fbC_160_112, fbC_160_132, fbC_160_133, fl_lit, fl_nadd, fl_nmul, fl_ndiv, fl_nsub, fl_msub, fl_nle, fl_nlt, fl_neq, fl_nclamp, fl_nin, fl_ltT, fl_ltF, fl_leT, fl_leF, fl_eqT, fl_eqF, decide_true, decide_false, Bool.true_and, Bool.and_true, Bool.false_and, Bool.and_false, if_true, if_false, Bool.false_eq_true, Option.isSome_some, Option.getD_some, not_true_eq_false, not_false_eq_true, Option.toList_some, Option.toList_none, List.cons_append, List.nil_append, Bool.toNat_true, Bool.toNat_false]))
    clear hf m
    rw [fbC_160_23, fl_bs]
    have e0 := e77 0 (by omega)
    have e1 := e77 1 (by omega)
    have p0 : (fl_vq b (fv f) gv && decide (0 = 0)) = fl_vq b (fv f) gv := by simp
    have p1 : (fl_vq b (fv f) gv && decide (1 = 0)) = false := by simp
    rw [p0] at e0
    rw [p1] at e1
    clear e77 p0 p1
    generalize fl_bs (fun f => fl_vq b (fv f) gv) f = A at e0 e1 ⊢
    rcases Bool.eq_false_or_eq_true (ad f) with a | a
    · have ra' := ra a
      rw [a] at r3
      have hz' := fl_oi_lt (b := true) (t := fd f) (by omega)
      have o2 : fl_oi true (fd f) = Int32.ofNat (fd f) := rfl
      by_cases l : fd f + 1 < n
      · have q0 : fl_vq b (fv f) gv = false := by rw [ra'.2 l]; exact fl_vq_self
        rw [q0] at e0 ⊢
        simp (disch := omega) only [hg.1, hg.2, fl_KM, fl_RM, fl_lit, fl_nadd, fl_nmul, fl_ndiv, fl_nsub, fl_msub, fl_nle, fl_nlt, fl_neq, fl_nclamp, fl_nin, fl_ltT, fl_ltF, fl_leT, fl_leF, fl_eqT, fl_eqF, decide_true, decide_false, Bool.true_and, Bool.and_true, Bool.false_and, Bool.and_false, if_true, if_false, Bool.false_eq_true, Option.isSome_some, Option.getD_some, not_true_eq_false, not_false_eq_true, Option.toList_some, Option.toList_none, List.cons_append, List.nil_append, e88, fbP_160_29, fbC_160_43, r4, r3, hz', o2, h16, Bool.true_eq_false, e1]
      · simp (disch := omega) only [hg.1, hg.2, fl_KM, fl_RM, fl_lit, fl_nadd, fl_nmul, fl_ndiv, fl_nsub, fl_msub, fl_nle, fl_nlt, fl_neq, fl_nclamp, fl_nin, fl_ltT, fl_ltF, fl_leT, fl_leF, fl_eqT, fl_eqF, decide_true, decide_false, Bool.true_and, Bool.and_true, Bool.false_and, Bool.and_false, if_true, if_false, Bool.false_eq_true, Option.isSome_some, Option.getD_some, not_true_eq_false, not_false_eq_true, Option.toList_some, Option.toList_none, List.cons_append, List.nil_append, e88, fbP_160_29, fbC_160_43, fbC_160_76, r4, r3, hz', o2, h16, Bool.true_eq_false, e0]
    · rw [a] at r3
      have hz' := fl_oi_lt (b := false) (t := fd f)
      have n1 : (fl_oi false (fd f) < Int32.ofNat 0) = True := eq_true (by show (-Int32.ofNat 1 : Int32) < Int32.ofNat 0; decide)
      simp (disch := omega) only [hg.1, hg.2, fl_KM, fl_RM, fl_lit, fl_nadd, fl_nmul, fl_ndiv, fl_nsub, fl_msub, fl_nle, fl_nlt, fl_neq, fl_nclamp, fl_nin, fl_ltT, fl_ltF, fl_leT, fl_leF, fl_eqT, fl_eqF, decide_true, decide_false, Bool.true_and, Bool.and_true, Bool.false_and, Bool.and_false, if_true, if_false, Bool.false_eq_true, Option.isSome_some, Option.getD_some, not_true_eq_false, not_false_eq_true, Option.toList_some, Option.toList_none, List.cons_append, List.nil_append, e88, fbP_160_29, fbC_160_43, fbC_160_76, r4, r3, n1, e0])
  clear hf
  rw [fbE_160]
  have fin : fl_Rn fl_C 160 23 [some (.ref 259), some (.int (Int32.ofNat k)), some (.int (Int32.ofNat b.toNat)), some (.long (fl_bs (fun f => fl_vq b (fv f) gv) (2 * (g 0 + g 2)))), none, some (.int (Int32.ofNat gv)), some (.int (Int32.ofNat (2 * (g 0 + g 2))))] [] z = some (some (some (.long (fl_bs (fun f => fl_vq b (fv f) gv) (2 * (g 0 + g 2))))), z) := by
    clear m lp
    rw [fbC_160_23]
    simp (disch := omega) only [hg.1, hg.2, fl_KM, fl_RM, fl_lit, fl_nadd, fl_nmul, fl_ndiv, fl_nsub, fl_msub, fl_nle, fl_nlt, fl_neq, fl_nclamp, fl_nin, fl_ltT, fl_ltF, fl_leT, fl_leF, fl_eqT, fl_eqF, decide_true, decide_false, Bool.true_and, Bool.and_true, Bool.false_and, Bool.and_false, if_true, if_false, Bool.false_eq_true, Option.isSome_some, Option.getD_some, not_true_eq_false, not_false_eq_true, Option.toList_some, Option.toList_none, List.cons_append, List.nil_append, e88, fbP_160_29]
  have lp' := lp.trans fin
  clear m lp fin
  simp (disch := omega) only [hg.1, hg.2, fl_KM, fl_RM, fl_lit, fl_nadd, fl_nmul, fl_ndiv, fl_nsub, fl_msub, fl_nle, fl_nlt, fl_neq, fl_nclamp, fl_nin, fl_ltT, fl_ltF, fl_leT, fl_leF, fl_eqT, fl_eqF, decide_true, decide_false, Bool.true_and, Bool.and_true, Bool.false_and, Bool.and_false, if_true, if_false, Bool.false_eq_true, Option.isSome_some, Option.getD_some, not_true_eq_false, not_false_eq_true, Option.toList_some, Option.toList_none, List.cons_append, List.nil_append, h16, fbC_160_17, h269]
  exact lp'
end
