/-! value -/
def fl_vq (b : Bool) (v gv : Nat) : Bool := decide (v ≠ gv) && ((decide (v = 2) || decide (gv = 2)) == b)
def fl_vs (g : Nat → Nat) (b : Bool) (k : Nat) : Int64 := fl_B (fun c => decide (c < 2 * (g 0 + g 2)) && fl_vq b (fl_cvn g c k) (fl_vl g 64 (fl_ps g) (g 76 - 1) k))
theorem fl_vq0 {a b : Nat} (ha : a ≤ 2) (hb : b ≤ 2) : ((decide (a = 1) && decide (b = 0)) || (decide (a = 0) && decide (b = 1))) = fl_vq false a b := by
  rcases (show a = 0 ∨ a = 1 ∨ a = 2 by omega) with e | e | e <;> rcases (show b = 0 ∨ b = 1 ∨ b = 2 by omega) with e' | e' | e' <;> subst e <;> subst e' <;> rfl
theorem fl_vq1 {a b : Nat} (ha : a ≤ 2) (hb : b ≤ 2) : ((decide (a = 1) || decide (a = 0)) ^^ (decide (b = 1) || decide (b = 0))) = fl_vq true a b := by
  rcases (show a = 0 ∨ a = 1 ∨ a = 2 by omega) with e | e | e <;> rcases (show b = 0 ∨ b = 1 ∨ b = 2 by omega) with e' | e' | e' <;> subst e <;> subst e' <;> rfl
theorem fl_vq_self {b : Bool} {a : Nat} : fl_vq b a a = false := by
  unfold fl_vq; simp
section
variable {k0 : Nat → Nat × Nat} {h z : fl_H} {c : Nat × Nat × Nat × Bool}
theorem fr_160 {g : Nat → Nat} (hg : fl_g k0 z) (m : fl_mm z g) (w0 : g 0 ≤ 12) (w2 : g 2 ≤ 20) {n k gv : Nat} (hn : 0 < n) (hn2 : n ≤ 24) (hk : k < g 0) (h16 : fl_i z 259 16 = Int32.ofNat n) (hgv : gv ≤ 2) (h269 : fl_i z 269 (12 * (n - 1) + k) = Int32.ofNat gv) (b : Bool) (fv fd : Nat → Nat) (ad : Nat → Bool)
    (hf : ∀ f, f < 2 * (g 0 + g 2) → fl_i z 274 (12 * f + k) = Int32.ofNat (fv f) ∧ fl_i z 273 f = fl_oi (ad f) (fd f) ∧ fv f ≤ 2 ∧ (ad f = true → fd f < n ∧ (fd f + 1 < n → fv f = gv))) :
    fl_cl fl_C 160 [.ref 259, .int (Int32.ofNat k), .int (Int32.ofNat b.toNat)] z = some (some (some (.long (fl_bs (fun f => fl_vq b (fv f) gv) (2 * (g 0 + g 2))))), z) := by
  have e88 := fr_88 hg m
  have lp := fl_iter (fun f => fl_Rn fl_C 160 23 [some (.ref 259), some (.int (Int32.ofNat k)), some (.int (Int32.ofNat b.toNat)), some (.long (fl_bs (fun f => fl_vq b (fv f) gv) f)), none, some (.int (Int32.ofNat gv)), some (.int (Int32.ofNat f))] [] z) (2 * (g 0 + g 2)) (by
    intro f hf2
    try dsimp only
    obtain ⟨r4, r3, v2, ra⟩ := hf f hf2
    have hz := fun t (ht : t < 2147483648) => fl_oi_lt (b := ad f) (t := t) ht
    have e77 : ∀ x : Nat, x ≤ 1 → fl_Rn fl_C 160 77 [some (.ref 259), some (.int (Int32.ofNat k)), some (.int (Int32.ofNat b.toNat)), some (.long (fl_bs (fun f => fl_vq b (fv f) gv) f)), none, some (.int (Int32.ofNat gv)), some (.int (Int32.ofNat f)), some (.int (Int32.ofNat (fv f)))] [.int (Int32.ofNat x)] z = fl_Rn fl_C 160 23 [some (.ref 259), some (.int (Int32.ofNat k)), some (.int (Int32.ofNat b.toNat)), some (.long (fl_bs (fun f => fl_vq b (fv f) gv) f ||| (if (fl_vq b (fv f) gv && decide (x = 0)) = true then 1 <<< (Int32.toInt64 (Int32.ofNat f) &&& 63) else 0))), none, some (.int (Int32.ofNat gv)), some (.int (Int32.ofNat (f + 1)))] [] z := by
      intro x hx
      generalize fl_bs (fun f => fl_vq b (fv f) gv) f = A
      generalize fv f = v at v2
      clear hf m h269 h16 r4 r3 ra e88
      rcases (show v = 0 ∨ v = 1 ∨ v = 2 by omega) with e | e | e <;> subst e <;> rcases (show gv = 0 ∨ gv = 1 ∨ gv = 2 by omega) with e' | e' | e' <;> subst e' <;> cases b <;> rcases (show x = 0 ∨ x = 1 by omega) with e'' | e'' <;> subst e'' <;>
        (first
          | (rw [show (fl_vq _ _ _ && decide (_ = 0)) = true from rfl]; simp (disch := omega) only [fbC_160_77, fbC_160_98, fbC_160_103, fbC_160_111, fbC_160_112, fbC_160_132, fbC_160_133, fl_lit, fl_nadd, fl_nmul, fl_ndiv, fl_nsub, fl_msub, fl_nle, fl_nlt, fl_neq, fl_nclamp, fl_nin, fl_ltT, fl_ltF, fl_leT, fl_leF, fl_eqT, fl_eqF, decide_true, decide_false, Bool.true_and, Bool.and_true, Bool.false_and, Bool.and_false, if_true, if_false, Bool.false_eq_true, Option.isSome_some, Option.getD_some, not_true_eq_false, not_false_eq_true, Option.toList_some, Option.toList_none, List.cons_append, List.nil_append, Bool.toNat_true, Bool.toNat_false])
          | (rw [show (fl_vq _ _ _ && decide (_ = 0)) = false from rfl]; simp (disch := omega) only [fbC_160_77, fbC_160_98, fbC_160_103, fbC_160_111, fbC_160_112, fbC_160_132, fbC_160_133, fl_lit, fl_nadd, fl_nmul, fl_ndiv, fl_nsub, fl_msub, fl_nle, fl_nlt, fl_neq, fl_nclamp, fl_nin, fl_ltT, fl_ltF, fl_leT, fl_leF, fl_eqT, fl_eqF, decide_true, decide_false, Bool.true_and, Bool.and_true, Bool.false_and, Bool.and_false, if_true, if_false, Bool.false_eq_true, Option.isSome_some, Option.getD_some, not_true_eq_false, not_false_eq_true, Option.toList_some, Option.toList_none, List.cons_append, List.nil_append, Bool.toNat_true, Bool.toNat_false]))
    clear hf m
    rw [fbC_160_23, fl_bs]
    have e0 := e77 0 (by omega)
    have e1 := e77 1 (by omega)
    have p0 : (fl_vq b (fv f) gv && decide (0 = 0)) = fl_vq b (fv f) gv := by simp
    have p1 : (fl_vq b (fv f) gv && decide (1 = 0)) = false := by simp
    rw [p0] at e0
    rw [p1] at e1
    clear e77 p0 p1
    generalize fl_bs (fun f => fl_vq b (fv f) gv) f = A at e0 e1 ⊢
    rcases Bool.eq_false_or_eq_true (ad f) with a | a
    · have ra' := ra a
      rw [a] at r3
      have hz' := fl_oi_lt (b := true) (t := fd f) (by omega)
      have o2 : fl_oi true (fd f) = Int32.ofNat (fd f) := rfl
      by_cases l : fd f + 1 < n
      · have q0 : fl_vq b (fv f) gv = false := by rw [ra'.2 l]; exact fl_vq_self
        rw [q0] at e0 ⊢
        simp (disch := omega) only [hg.1, hg.2, fl_KM, fl_RM, fl_lit, fl_nadd, fl_nmul, fl_ndiv, fl_nsub, fl_msub, fl_nle, fl_nlt, fl_neq, fl_nclamp, fl_nin, fl_ltT, fl_ltF, fl_leT, fl_leF, fl_eqT, fl_eqF, decide_true, decide_false, Bool.true_and, Bool.and_true, Bool.false_and, Bool.and_false, if_true, if_false, Bool.false_eq_true, Option.isSome_some, Option.getD_some, not_true_eq_false, not_false_eq_true, Option.toList_some, Option.toList_none, List.cons_append, List.nil_append, e88, fbP_160_29, fbC_160_43, r4, r3, hz', o2, h16, Bool.true_eq_false, e1]
      · simp (disch := omega) only [hg.1, hg.2, fl_KM, fl_RM, fl_lit, fl_nadd, fl_nmul, fl_ndiv, fl_nsub, fl_msub, fl_nle, fl_nlt, fl_neq, fl_nclamp, fl_nin, fl_ltT, fl_ltF, fl_leT, fl_leF, fl_eqT, fl_eqF, decide_true, decide_false, Bool.true_and, Bool.and_true, Bool.false_and, Bool.and_false, if_true, if_false, Bool.false_eq_true, Option.isSome_some, Option.getD_some, not_true_eq_false, not_false_eq_true, Option.toList_some, Option.toList_none, List.cons_append, List.nil_append, e88, fbP_160_29, fbC_160_43, fbC_160_76, r4, r3, hz', o2, h16, Bool.true_eq_false, e0]
    · rw [a] at r3
      have hz' := fl_oi_lt (b := false) (t := fd f)
      have n1 : (fl_oi false (fd f) < Int32.ofNat 0) = True := eq_true (by show (-Int32.ofNat 1 : Int32) < Int32.ofNat 0; decide)
      simp (disch := omega) only [hg.1, hg.2, fl_KM, fl_RM, fl_lit, fl_nadd, fl_nmul, fl_ndiv, fl_nsub, fl_msub, fl_nle, fl_nlt, fl_neq, fl_nclamp, fl_nin, fl_ltT, fl_ltF, fl_leT, fl_leF, fl_eqT, fl_eqF, decide_true, decide_false, Bool.true_and, Bool.and_true, Bool.false_and, Bool.and_false, if_true, if_false, Bool.false_eq_true, Option.isSome_some, Option.getD_some, not_true_eq_false, not_false_eq_true, Option.toList_some, Option.toList_none, List.cons_append, List.nil_append, e88, fbP_160_29, fbC_160_43, fbC_160_76, r4, r3, n1, e0])
  clear hf
  rw [fbE_160]
  have fin : fl_Rn fl_C 160 23 [some (.ref 259), some (.int (Int32.ofNat k)), some (.int (Int32.ofNat b.toNat)), some (.long (fl_bs (fun f => fl_vq b (fv f) gv) (2 * (g 0 + g 2)))), none, some (.int (Int32.ofNat gv)), some (.int (Int32.ofNat (2 * (g 0 + g 2))))] [] z = some (some (some (.long (fl_bs (fun f => fl_vq b (fv f) gv) (2 * (g 0 + g 2))))), z) := by
    clear m lp
    rw [fbC_160_23]
    simp (disch := omega) only [hg.1, hg.2, fl_KM, fl_RM, fl_lit, fl_nadd, fl_nmul, fl_ndiv, fl_nsub, fl_msub, fl_nle, fl_nlt, fl_neq, fl_nclamp, fl_nin, fl_ltT, fl_ltF, fl_leT, fl_leF, fl_eqT, fl_eqF, decide_true, decide_false, Bool.true_and, Bool.and_true, Bool.false_and, Bool.and_false, if_true, if_false, Bool.false_eq_true, Option.isSome_some, Option.getD_some, not_true_eq_false, not_false_eq_true, Option.toList_some, Option.toList_none, List.cons_append, List.nil_append, e88, fbP_160_29]
  have lp' := lp.trans fin
  clear m lp fin
  simp (disch := omega) only [hg.1, hg.2, fl_KM, fl_RM, fl_lit, fl_nadd, fl_nmul, fl_ndiv, fl_nsub, fl_msub, fl_nle, fl_nlt, fl_neq, fl_nclamp, fl_nin, fl_ltT, fl_ltF, fl_leT, fl_leF, fl_eqT, fl_eqF, decide_true, decide_false, Bool.true_and, Bool.and_true, Bool.false_and, Bool.and_false, if_true, if_false, Bool.false_eq_true, Option.isSome_some, Option.getD_some, not_true_eq_false, not_false_eq_true, Option.toList_some, Option.toList_none, List.cons_append, List.nil_append, h16, fbC_160_17, h269]
  exact lp'
/-- when value has something to tell -/
def fl_vok (g : Nat → Nat) (p : Int32) : Prop := fl_in p (g 0) = true ∧ 0 < g 76
theorem fl_vl_le2 {g : Nat → Nat} (w : fl_wf g) (hn : 0 < g 76) (k : Nat) : fl_vl g 64 (fl_ps g) (g 76 - 1) k ≤ 2 := fl_vl_le w (n := g 76) (fl_okp_g w) (by omega) k
theorem fo_value_a {g : Nat → Nat} {s : Int64} (hg : fl_g k0 h) (w : fl_wf g) (d : fl_rn h 27 g s) (e1 : fl_i h 4 1 = Int32.ofNat 6) {k : Nat} (hk : k < g 0) (hn : 0 < g 76) : fl_cl fl_C 159 [.ref 0, .int (Int32.ofNat k)] h = some (some (some (.int (Int32.ofNat (fl_vl g 64 (fl_ps g) (g 76 - 1) k)))), fl_tc6 (fl_tc6 h 0 (fl_vs g false k)) 1 (fl_vs g true k)) := by
  have O := fl_o27 (k0 := k0)
  have w1 := w.1
  have k12 : k < 12 := by omega
  have e64 := fc_64 hg O.2.1 w d.1 (Int32.ofNat k)
  rw [fl_nin (by omega), decide_eq_true hk, if_pos rfl] at e64
  have i3 := d.2.1.1
  have dv := d.2.2.2.2.2.1 hn k hk
  have gv := fl_vl_le2 w hn k
  have cg : ∀ c, ¬ c < 2 * (g 0 + g 2) → fl_cvn g c = fl_vl g 64 (fl_ps g) (g 76 - 1) := fun c hc => if_neg hc
  have e118 := fc_118 hg O.2.2.1 k12
  have eL : fl_dl h (27 + 14) k = fl_vs g false k := by
    unfold fl_dl fl_vs
    rw [dv.1.1, dv.1.2, dv.2.1, dv.2.2, fl_B_and, fl_B_and, fl_B_or]
    refine fl_B_congr fun c _ => ?_
    rw [fl_vq0 (fl_cvn_le w hn c k) gv]
    by_cases cf : c < 2 * (g 0 + g 2)
    · rw [decide_eq_true cf, Bool.true_and]
    · rw [decide_eq_false cf, Bool.false_and, cg c cf, fl_vq_self]
  rw [eL] at e118
  have q1 := fl_tc6_qo (h := h) (n := 0) (x := fl_vs g false k)
  have t1 := fc_tell hg e1 (fl_vs g false k)
  have hg1 := fl_qo_g hg q1
  have e157 := fc_157 hg1 O.2.2.1 k12
  have eD : (fl_l (fl_tc6 h 0 (fl_vs g false k)) (27 + 14 + 10 + 2) k ||| fl_l (fl_tc6 h 0 (fl_vs g false k)) (27 + 14 + 10 + 4) k) ^^^ (fl_l (fl_tc6 h 0 (fl_vs g false k)) (27 + 14 + 1 + 2) k ||| fl_l (fl_tc6 h 0 (fl_vs g false k)) (27 + 14 + 1 + 4) k) = fl_vs g true k := by
    rw [q1.2.2.2.1 (27 + 14 + 10 + 2) (by omega) (by omega), q1.2.2.2.1 (27 + 14 + 10 + 4) (by omega) (by omega), q1.2.2.2.1 (27 + 14 + 1 + 2) (by omega) (by omega), q1.2.2.2.1 (27 + 14 + 1 + 4) (by omega) (by omega), dv.1.1, dv.1.2, dv.2.1, dv.2.2, fl_B_or, fl_B_or, fl_B_xor]
    unfold fl_vs
    refine fl_B_congr fun c _ => ?_
    rw [fl_vq1 (fl_cvn_le w hn c k) gv]
    by_cases cf : c < 2 * (g 0 + g 2)
    · rw [decide_eq_true cf, Bool.true_and]
    · rw [decide_eq_false cf, Bool.false_and, cg c cf, fl_vq_self]
  rw [eD] at e157
  have t2 := fc_add hg1 (n := 1) (by omega) (by rw [fl_tc6_r]; exact e1) fl_tc6_n (fl_vs g true k)
  have q2 := fl_tc6_qo (h := fl_tc6 h 0 (fl_vs g false k)) (n := 1) (x := fl_vs g true k)
  have hg2 := fl_qo_g hg1 q2
  have e158 := fc_158 hg2 O.2.2.1.2.1 k12 (show 0 < 64 by omega)
  rw [q2.2.2.2.1 (27 + 14 + 1 + 2) (by omega) (by omega), q2.2.2.2.1 (27 + 14 + 1 + 4) (by omega) (by omega), q1.2.2.2.1 (27 + 14 + 1 + 2) (by omega) (by omega), q1.2.2.2.1 (27 + 14 + 1 + 4) (by omega) (by omega), dv.1.1, dv.1.2, fl_hb_B _ (by omega), fl_hb_B _ (by omega), fl_tri gv] at e158
  have o27 : fl_KK k0 27 = (1, 7) ∧ fl_RR 27 0 = some (27 + 1) ∧ fl_RR 27 1 = some (27 + 14) := ⟨O.1.1, O.1.2.1, O.1.2.2.1⟩
  have o28 : fl_KK k0 (27 + 1) = (1, 4) := O.2.1.1.1
  have o41 : fl_KK k0 (27 + 14) = (1, 0) ∧ fl_RR (27 + 14) 0 = some (27 + 14 + 1) := ⟨O.2.2.1.1.1, O.2.2.1.1.2.1⟩
  have o42 : fl_KK k0 (27 + 14 + 1) = (1, 9) := O.2.2.1.2.1.1.1
  have o4 : fl_KK k0 4 = (1, 5) := fl_o4.1.1
  have n24 : g 76 ≤ 24 := by omega
  generalize fl_tc6 (fl_tc6 h 0 (fl_vs g false k)) 1 (fl_vs g true k) = H2 at t2 hg2 e158 ⊢
  generalize fl_tc6 h 0 (fl_vs g false k) = H1 at t1 hg1 e157 t2
  clear w w1 d dv q1 q2 eL eD cg
  rw [fbE_159]
  simp (disch := omega) only [hg.1, hg.2, hg1.1, hg1.2, hg2.1, hg2.2, fl_KF, fl_RF, o27, o28, o41, o42, o4, fl_lit, fl_nadd, fl_nmul, fl_ndiv, fl_nsub, fl_msub, fl_nle, fl_nlt, fl_neq, fl_nclamp, fl_nin, fl_ltT, fl_ltF, fl_leT, fl_leF, fl_eqT, fl_eqF, decide_true, decide_false, Bool.true_and, Bool.and_true, Bool.false_and, Bool.and_false, if_true, if_false, Bool.false_eq_true, Option.isSome_some, Option.getD_some, not_true_eq_false, not_false_eq_true, Option.toList_some, Option.toList_none, List.cons_append, List.nil_append, e64, i3, e118, t1, e157, t2, e158, fbP_159_11, fbP_159_41, fbP_159_44, fbP_159_59, fbP_159_62, fbP_159_77]
theorem fo_value_n {g : Nat → Nat} {s : Int64} (hg : fl_g k0 h) (w : fl_wf g) (d : fl_rn h 27 g s) {p : Int32} (hp : ¬ fl_vok g p) : fl_cl fl_C 159 [.ref 0, .int p] h = some (some (some (.int (if fl_in p (g 0) = true then -Int32.ofNat 2 else -Int32.ofNat 1))), h) := by
  have O := fl_o27 (k0 := k0)
  have e64 := fc_64 hg O.2.1 w d.1 p
  have i3 := d.2.1.1
  have o27 : fl_KK k0 27 = (1, 7) ∧ fl_RR 27 0 = some (27 + 1) := ⟨O.1.1, O.1.2.1⟩
  have o28 : fl_KK k0 (27 + 1) = (1, 4) := O.2.1.1.1
  by_cases c0 : fl_in p (g 0) = true
  · have z : g 76 = 0 := by
      by_cases z : g 76 = 0
      · exact z
      · exact absurd ⟨c0, by omega⟩ hp
    rw [if_pos c0] at e64 ⊢
    rw [z] at i3
    clear w d hp
    rw [fbE_159]
    simp (disch := omega) only [hg.1, hg.2, fl_KF, fl_RF, o27, o28, fl_lit, fl_nadd, fl_nmul, fl_ndiv, fl_nsub, fl_msub, fl_nle, fl_nlt, fl_neq, fl_nclamp, fl_nin, fl_ltT, fl_ltF, fl_leT, fl_leF, fl_eqT, fl_eqF, decide_true, decide_false, Bool.true_and, Bool.and_true, Bool.false_and, Bool.and_false, if_true, if_false, Bool.false_eq_true, Option.isSome_some, Option.getD_some, not_true_eq_false, not_false_eq_true, Option.toList_some, Option.toList_none, List.cons_append, List.nil_append, e64, i3, fbP_159_11, fbP_159_41, fbP_159_44, fbP_159_59, fbP_159_62, fbP_159_77]
  · rw [if_neg c0] at e64 ⊢
    clear w d hp
    rw [fbE_159]
    simp (disch := omega) only [hg.1, hg.2, fl_KF, fl_RF, o27, o28, fl_lit, fl_nadd, fl_nmul, fl_ndiv, fl_nsub, fl_msub, fl_nle, fl_nlt, fl_neq, fl_nclamp, fl_nin, fl_ltT, fl_ltF, fl_leT, fl_leF, fl_eqT, fl_eqF, decide_true, decide_false, Bool.true_and, Bool.and_true, Bool.false_and, Bool.and_false, if_true, if_false, Bool.false_eq_true, Option.isSome_some, Option.getD_some, not_true_eq_false, not_false_eq_true, Option.toList_some, Option.toList_none, List.cons_append, List.nil_append, e64, fbP_159_11, fbP_159_41, fbP_159_44, fbP_159_59, fbP_159_62, fbP_159_77]
theorem fo_value_b {g : Nat → Nat} (hg : fl_g k0 h) (m : fl_mm h g) (w : fl_wf g) {k : Nat} (hk : k < g 0) (hn : 0 < g 76) : ∃ y, fl_cl fl_C 161 [.ref 259, .int (Int32.ofNat k)] h = some (some (some (.int (Int32.ofNat (fl_vl g 64 (fl_ps g) (g 76 - 1) k)))), fl_ae (fl_ae (fl_a0 y) 0 (fl_vs g false k)) 1 (fl_vs g true k)) ∧ fl_qt h y := by
  have w1 := w.1
  have w7 : g 76 ≤ 24 := by omega
  have w0 : g 0 ≤ 12 := by omega
  have w2 : g 2 ≤ 20 := by omega
  have k12 : k < 12 := by omega
  have q0 := fl_qt_0 (h := h) (x := Int32.ofNat 0)
  have hg0 := fl_qo_g hg (fl_qt_qo q0)
  have m0 := fl_qo_mm m (fl_qt_qo q0)
  have e96 := fr_96 hg0 m0 w0 (Int32.ofNat k)
  rw [fl_nin (by omega), decide_eq_true hk, if_pos rfl] at e96
  have e130 := fr_130 hg0 m0
  obtain ⟨r, y, e141, rfl, ay⟩ := fr_141 hg0 m0 w
  have qy := fl_qt_tr q0 (fl_qt_all ay)
  have gy := fl_qo_g hg (fl_qt_qo qy)
  have my := fl_qo_mm m (fl_qt_qo qy)
  have gd : fl_i y 269 (12 * (g 76 - 1) + k) = Int32.ofNat (fl_vl g 64 (fl_ps g) (g 76 - 1) k) := ay.2.2.2.1.1 (g 76 - 1) (by omega) k hk
  have y16 : fl_i y 259 16 = Int32.ofNat (g 76) := ay.2.2.1.2.1
  have facts : ∀ f, f < 2 * (g 0 + g 2) → fl_i y 274 (12 * f + k) = Int32.ofNat (fl_cvn g f k) ∧ fl_i y 273 f = fl_oi (fl_any (fl_dr g f (fl_ps g)) (g 76)) (fl_frst (fl_dr g f (fl_ps g)) (g 76)) ∧ fl_cvn g f k ≤ 2 ∧ (fl_any (fl_dr g f (fl_ps g)) (g 76) = true → fl_frst (fl_dr g f (fl_ps g)) (g 76) < g 76 ∧ (fl_frst (fl_dr g f (fl_ps g)) (g 76) + 1 < g 76 → fl_cvn g f k = fl_vl g 64 (fl_ps g) (g 76 - 1) k)) := by
    intro f hf
    have rf := ay.2.2.2.2 f hf
    have cv : fl_cvn g f = fl_fvl g f (fl_ps g) (g 76) := if_pos hf
    refine ⟨?_, rf.2.2.1, fl_cvn_le w hn f k, fun z => ⟨(fl_frst_sp z).1, fun l => ?_⟩⟩
    · rw [cv]; exact rf.2.2.2.1 hn k hk
    · rw [cv]
      unfold fl_fvl fl_aw
      rw [z, decide_eq_true l]
      rfl
  have vs : ∀ b, fl_bs (fun f => fl_vq b (fl_cvn g f k) (fl_vl g 64 (fl_ps g) (g 76 - 1) k)) (2 * (g 0 + g 2)) = fl_vs g b k := fun b => fl_bs_F (by omega)
  have gz := fl_qo_g gy (fl_a0_qo (h := y))
  have mz := fl_qo_mm my (fl_a0_qo (h := y))
  have a0i : ∀ q, q ≠ 259 → fl_i (fl_a0 y) q = fl_i y q := fun q hq => by unfold fl_a0; rw [fl_i_wi, if_neg hq]
  have a016 : fl_i (fl_a0 y) 259 16 = fl_i y 259 16 := by unfold fl_a0; rw [fl_i_wi, if_pos rfl, fl_up_ne (by omega)]
  have gv := fl_vl_le2 w hn k
  have r0 := fr_160 gz mz w0 w2 hn w7 hk (by rw [a016]; exact y16) gv (by rw [a0i 269 (by omega)]; exact gd) false (fun f => fl_cvn g f k) (fun f => fl_frst (fl_dr g f (fl_ps g)) (g 76)) (fun f => fl_any (fl_dr g f (fl_ps g)) (g 76)) (fun f hf => by rw [a0i 274 (by omega), a0i 273 (by omega)]; exact facts f hf)
  rw [vs, Bool.toNat_false] at r0
  have t0 : fl_cl fl_C 143 [.ref 259, .long (fl_vs g false k)] (fl_a0 y) = some (some none, fl_ae (fl_a0 y) 0 (fl_vs g false k)) := fr_143 gz (by omega) fl_a0_n _
  have g1 := fl_qo_g gz (fl_ae_qo (h := fl_a0 y) (n := 0) (x := fl_vs g false k))
  have m1 := fl_qo_mm mz (fl_ae_qo (h := fl_a0 y) (n := 0) (x := fl_vs g false k))
  have aei : ∀ (z : fl_H) n x q, q ≠ 259 → fl_i (fl_ae z n x) q = fl_i z q := fun z n x q hq => by unfold fl_ae; rw [fl_i_wi, if_neg hq, fl_i_wl]
  have ae16 : ∀ (z : fl_H) n x, fl_i (fl_ae z n x) 259 16 = fl_i z 259 16 := fun z n x => by unfold fl_ae; rw [fl_i_wi, if_pos rfl, fl_up_ne (by omega)]
  have r1 := fr_160 g1 m1 w0 w2 hn w7 hk (by rw [ae16, a016]; exact y16) gv (by rw [aei _ _ _ 269 (by omega), a0i 269 (by omega)]; exact gd) true (fun f => fl_cvn g f k) (fun f => fl_frst (fl_dr g f (fl_ps g)) (g 76)) (fun f => fl_any (fl_dr g f (fl_ps g)) (g 76)) (fun f hf => by rw [aei _ _ _ 274 (by omega), aei _ _ _ 273 (by omega), a0i 274 (by omega), a0i 273 (by omega)]; exact facts f hf)
  rw [vs, Bool.toNat_true] at r1
  have t1 : fl_cl fl_C 143 [.ref 259, .long (fl_vs g true k)] (fl_ae (fl_a0 y) 0 (fl_vs g false k)) = some (some none, fl_ae (fl_ae (fl_a0 y) 0 (fl_vs g false k)) 1 (fl_vs g true k)) := fr_143 g1 (by omega) fl_ae_n _
  have g2 := fl_qo_g g1 (fl_ae_qo (h := fl_ae (fl_a0 y) 0 (fl_vs g false k)) (n := 1) (x := fl_vs g true k))
  have z16 : fl_i (fl_ae (fl_ae (fl_a0 y) 0 (fl_vs g false k)) 1 (fl_vs g true k)) 259 16 = Int32.ofNat (g 76) := by rw [ae16, ae16, a016]; exact y16
  have z269 : fl_i (fl_ae (fl_ae (fl_a0 y) 0 (fl_vs g false k)) 1 (fl_vs g true k)) 269 (12 * (g 76 - 1) + k) = Int32.ofNat (fl_vl g 64 (fl_ps g) (g 76 - 1) k) := by rw [aei _ _ _ 269 (by omega), aei _ _ _ 269 (by omega), a0i 269 (by omega)]; exact gd
  have ea : fl_wi y 259 (fl_up (fl_i y 259) 1 (Int32.ofNat 0)) = fl_a0 y := rfl
  refine ⟨y, ?_, qy⟩
  generalize fl_ae (fl_ae (fl_a0 y) 0 (fl_vs g false k)) 1 (fl_vs g true k) = H2 at t1 g2 z16 z269 ⊢
  generalize fl_ae (fl_a0 y) 0 (fl_vs g false k) = H1 at t0 g1 r1 t1
  clear w w1 m m0 ay my facts mz m1 a0i aei ae16 vs qy q0
  rw [fbE_161]
  simp (disch := omega) only [fl_k_wl, fl_r_wl, fl_i_wl, fl_l_wl, fl_1_wl, fl_k_wi, fl_r_wi, fl_l_wi, fl_1_wi, fl_i_wi, fl_k_si, fl_r_si, fl_l_si, fl_k_sl, fl_r_sl, fl_i_sl, fl_up_self, fl_up_ne, fl_si_wi, fl_sl_wl, fl_wi_wi, fl_wl_wl, hg.1, hg.2, gy.1, gy.2, gz.1, gz.2, g1.1, g1.2, g2.1, g2.2, fl_KM, fl_RM, fl_lit, fl_nadd, fl_nmul, fl_ndiv, fl_nsub, fl_msub, fl_nle, fl_nlt, fl_neq, fl_nclamp, fl_nin, fl_ltT, fl_ltF, fl_leT, fl_leF, fl_eqT, fl_eqF, decide_true, decide_false, Bool.true_and, Bool.and_true, Bool.false_and, Bool.and_false, if_true, if_false, Bool.false_eq_true, Option.isSome_some, Option.getD_some, not_true_eq_false, not_false_eq_true, Option.toList_some, Option.toList_none, List.cons_append, List.nil_append, e96, e130, e141, ea, r0, t0, r1, t1, z16, z269, fbC_161_5, fbC_161_34, fbC_161_69, fbP_161_10, fbP_161_41, fbP_161_19, fbP_161_44, fbP_161_29, fbP_161_51, fbP_161_54]
theorem fo_value_bn {g : Nat → Nat} (hg : fl_g k0 h) (m : fl_mm h g) (w : fl_wf g) {p : Int32} (hp : ¬ fl_vok g p) : ∃ y, fl_cl fl_C 161 [.ref 259, .int p] h = some (some (some (.int (if fl_in p (g 0) = true then -Int32.ofNat 2 else -Int32.ofNat 1))), y) ∧ fl_qt h y := by
  have w1 := w.1
  have w0 : g 0 ≤ 12 := by omega
  have q0 := fl_qt_0 (h := h) (x := Int32.ofNat 0)
  have hg0 := fl_qo_g hg (fl_qt_qo q0)
  have m0 := fl_qo_mm m (fl_qt_qo q0)
  have e96 := fr_96 hg0 m0 w0 p
  have e130 := fr_130 hg0 m0
  refine ⟨_, ?_, q0⟩
  by_cases c0 : fl_in p (g 0) = true
  · have z : g 76 = 0 := by
      by_cases z : g 76 = 0
      · exact z
      · exact absurd ⟨c0, by omega⟩ hp
    rw [if_pos c0] at e96 ⊢
    rw [z] at e130
    clear w w1 m m0
    rw [fbE_161]
    simp (disch := omega) only [fl_k_wl, fl_r_wl, fl_i_wl, fl_l_wl, fl_1_wl, fl_k_wi, fl_r_wi, fl_l_wi, fl_1_wi, fl_i_wi, fl_k_si, fl_r_si, fl_l_si, fl_k_sl, fl_r_sl, fl_i_sl, fl_up_self, fl_up_ne, fl_si_wi, fl_sl_wl, fl_wi_wi, fl_wl_wl, hg.1, hg.2, fl_KM, fl_RM, fl_lit, fl_nadd, fl_nmul, fl_ndiv, fl_nsub, fl_msub, fl_nle, fl_nlt, fl_neq, fl_nclamp, fl_nin, fl_ltT, fl_ltF, fl_leT, fl_leF, fl_eqT, fl_eqF, decide_true, decide_false, Bool.true_and, Bool.and_true, Bool.false_and, Bool.and_false, if_true, if_false, Bool.false_eq_true, Option.isSome_some, Option.getD_some, not_true_eq_false, not_false_eq_true, Option.toList_some, Option.toList_none, List.cons_append, List.nil_append, e96, e130, fbC_161_5, fbC_161_34, fbC_161_69, fbP_161_10, fbP_161_41, fbP_161_19, fbP_161_44, fbP_161_29, fbP_161_51, fbP_161_54]
  · rw [if_neg c0] at e96 ⊢
    clear w w1 m m0
    rw [fbE_161]
    simp (disch := omega) only [fl_k_wl, fl_r_wl, fl_i_wl, fl_l_wl, fl_1_wl, fl_k_wi, fl_r_wi, fl_l_wi, fl_1_wi, fl_i_wi, fl_k_si, fl_r_si, fl_l_si, fl_k_sl, fl_r_sl, fl_i_sl, fl_up_self, fl_up_ne, fl_si_wi, fl_sl_wl, fl_wi_wi, fl_wl_wl, hg.1, hg.2, fl_KM, fl_RM, fl_lit, fl_nadd, fl_nmul, fl_ndiv, fl_nsub, fl_msub, fl_nle, fl_nlt, fl_neq, fl_nclamp, fl_nin, fl_ltT, fl_ltF, fl_leT, fl_leF, fl_eqT, fl_eqF, decide_true, decide_false, Bool.true_and, Bool.and_true, Bool.false_and, Bool.and_false, if_true, if_false, Bool.false_eq_true, Option.isSome_some, Option.getD_some, not_true_eq_false, not_false_eq_true, Option.toList_some, Option.toList_none, List.cons_append, List.nil_append, e96, fbC_161_5, fbC_161_34, fbC_161_69, fbP_161_10, fbP_161_41, fbP_161_19, fbP_161_44, fbP_161_29, fbP_161_51, fbP_161_54]
theorem fo_value (I : fl_Inv k0 c h) (p : Int32) : fl_both k0 c 159 161 [.int p] [.int p] h := by
  obtain ⟨rn, rv, iO⟩ := I.2.2.2.1
  obtain ⟨g, g1, g2, b1, b2, s, s1, s2, iG⟩ := I.2.2.2.2.2
  by_cases hp : fl_vok g p
  · obtain ⟨k, hk, rfl⟩ := fl_in_ex hp.1
    have a := fo_value_a I.1 iG.1 iG.2.2.2.1 iO.2.2.1 hk hp.2
    have q1 := fl_qo_tr (fl_tc6_qo (h := h) (n := 0) (x := fl_vs g false k)) (fl_tc6_qo (n := 1) (x := fl_vs g true k))
    obtain ⟨y, e, q⟩ := fo_value_b (fl_qo_g I.1 q1) (fl_qo_mm iG.2.1 q1) iG.1 hk hp.2
    refine ⟨_, _, _, a, e, ?_⟩
    refine fl_Inv_qo I (fl_qo_tr q1 (fl_qo_tr (fl_qt_qo q) (fl_qo_tr fl_a0_qo (fl_qo_tr fl_ae_qo fl_ae_qo)))) (n := 2) (rv := fun j => if j = 0 then fl_vs g false k else fl_vs g true k) (by omega) fl_ae_n ?_ (fun j hj => ?_)
    · rw [fl_ae_4, fl_ae_4]; unfold fl_a0; rw [fl_i_wi, if_neg (by omega), q.2.2.2.2 4 2 (by omega), fl_tc6_n]
    · rw [fl_ae_l2, fl_ae_l2]
      have e6 : fl_l (fl_a0 y) 6 = fl_l (fl_tc6 (fl_tc6 h 0 (fl_vs g false k)) 1 (fl_vs g true k)) 6 := by
        unfold fl_a0
        rw [fl_l_wi, q.2.2.2.1]
      rw [e6, fl_tc6_l, fl_tc6_l, fl_ae_l, fl_ae_l]
      rcases (show j = 0 ∨ j = 1 by omega) with e | e
      · subst e
        rw [fl_up_ne (by omega), fl_up_self, fl_up_ne (by omega), fl_up_self, if_pos rfl]
        exact ⟨rfl, rfl⟩
      · subst e
        rw [fl_up_self, fl_up_self, if_neg (by omega)]
        exact ⟨rfl, rfl⟩
  · have a := fo_value_n I.1 iG.1 iG.2.2.2.1 hp
    obtain ⟨y, e, q⟩ := fo_value_bn I.1 iG.2.1 iG.1 hp
    exact ⟨_, h, _, a, e, fl_Inv_qt I q⟩
end
