/-! applies, would: the class's side -/
section
variable {k0 : Nat → Nat × Nat} {h h' : fl_H} {tx g : Nat → Nat} {tn r : Nat} {s : Int64}
/-- those that are detected, as bits -/
def fl_dt (g : Nat → Nat) : Int64 := fl_B (fun c => decide (c < 2 * (g 0 + g 2)) && fl_any (fl_shn g c (fl_ps g)) (g 76))
/-- the text is emptied -/
theorem fc_40 (hg : fl_g k0 h) : fl_cl fl_C 40 [.ref 1] h = some (some none, fl_z1 h (Int32.ofNat 0)) := by
  have o1 := (fl_o1 (k0 := k0)).1
  unfold fl_z1
  rw [fbE_40]
  simp (disch := omega) only [fl_k_wl, fl_r_wl, fl_i_wl, fl_l_wl, fl_1_wl, fl_k_wi, fl_r_wi, fl_l_wi, fl_1_wi, fl_i_wi, fl_k_si, fl_r_si, fl_l_si, fl_k_sl, fl_r_sl, fl_i_sl, fl_up_self, fl_up_ne, fl_si_wi, fl_sl_wl, fl_wi_wi, fl_wl_wl, hg.1, o1, fl_lit, fl_nadd, fl_nmul, fl_ndiv, fl_nsub, fl_msub, fl_nle, fl_nlt, fl_neq, fl_nclamp, fl_nin, fl_ltT, fl_ltF, fl_leT, fl_leF, fl_eqT, fl_eqF, decide_true, decide_false, Bool.true_and, Bool.and_true, Bool.false_and, Bool.and_false, if_true, if_false, Bool.false_eq_true, Option.isSome_some, Option.getD_some, not_true_eq_false, not_false_eq_true, Option.toList_some, Option.toList_none, List.cons_append, List.nil_append]
theorem fc_127e (hg : fl_g k0 h) (x : Int32) (a : Nat) : fl_Rn fl_C 127 138 [some (.ref 0), none, none, none, some (.int x)] [] h = some (some (some (.int x)), fl_z1 h (Int32.ofNat 0)) := by
  have o1 := (fl_o1 (k0 := k0)).1
  have e := fc_40 hg
  rw [fbC_127_138]
  simp (disch := omega) only [hg.1, hg.2, fl_KF, fl_RF, o1, fl_lit, fl_nadd, fl_nmul, fl_ndiv, fl_nsub, fl_msub, fl_nle, fl_nlt, fl_neq, fl_nclamp, fl_nin, fl_ltT, fl_ltF, fl_leT, fl_leF, fl_eqT, fl_eqF, decide_true, decide_false, Bool.true_and, Bool.and_true, Bool.false_and, Bool.and_false, if_true, if_false, Bool.false_eq_true, Option.isSome_some, Option.getD_some, not_true_eq_false, not_false_eq_true, Option.toList_some, Option.toList_none, List.cons_append, List.nil_append, e, fbP_127_145]
theorem fc_127t (hg : fl_g k0 h) (rr : fl_isR k0 r) (hr : 7 ≤ r) (e1 : fl_i h 4 1 = Int32.ofNat 6) (B : Int64) : fl_Rn fl_C 127 107 [some (.ref 0), some (.ref r), none, none, none, some (.long B)] [] h = some (some (some (.int (Int32.ofNat (fl_cnt (fl_hb (fl_l h r 5 &&& (B ^^^ (-1)))) 64)))), fl_z1 (fl_tc6 h 0 (fl_l h r 5 &&& (B ^^^ (-1)))) (Int32.ofNat 0)) := by
  have o := rr.1.1
  have t := fc_tell hg e1 (fl_l h r 5 &&& (B ^^^ (-1)))
  have q := fl_tc6_qo (h := h) (n := 0) (x := fl_l h r 5 &&& (B ^^^ (-1)))
  have g1 := fl_qo_g hg q
  have l5 : fl_l (fl_tc6 h 0 (fl_l h r 5 &&& (B ^^^ (-1)))) r = fl_l h r := by
    by_cases e : r = 260
    · subst e; exact absurd o (by rw [fl_KM.2.1]; decide)
    · exact q.2.2.2.1 r (by omega) e
  have b := fc_126 (h := fl_tc6 h 0 (fl_l h r 5 &&& (B ^^^ (-1)))) (fl_l h r 5 &&& (B ^^^ (-1)))
  have e := fc_127e g1 (Int32.ofNat (fl_cnt (fl_hb (fl_l h r 5 &&& (B ^^^ (-1)))) 64)) 0
  generalize fl_tc6 h 0 (fl_l h r 5 &&& (B ^^^ (-1))) = H at *
  clear q rr
  rw [fbC_127_107]
  simp (disch := omega) only [hg.1, hg.2, fl_KF, fl_RF, o, fl_lit, fl_nadd, fl_nmul, fl_ndiv, fl_nsub, fl_msub, fl_nle, fl_nlt, fl_neq, fl_nclamp, fl_nin, fl_ltT, fl_ltF, fl_leT, fl_leF, fl_eqT, fl_eqF, decide_true, decide_false, Bool.true_and, Bool.and_true, Bool.false_and, Bool.and_false, if_true, if_false, Bool.false_eq_true, Option.isSome_some, Option.getD_some, not_true_eq_false, not_false_eq_true, Option.toList_some, Option.toList_none, List.cons_append, List.nil_append, t, fbP_127_122, g1.1, l5, b, fbP_127_136, e]
theorem fc_127s (hg : fl_g k0 h) (iT : fl_iT h tn tx) (rr : fl_isR k0 r) (hr : 27 ≤ r ∧ r + 38 < 259) (w : fl_wf g) (d : fl_rn h r g s) (ok : ∀ p, p < tn → fl_sok (tx p) = true) {k : Nat} (hk : k < 24) (hk2 : k * g 1 + g 1 ≤ tn) (h24 : g 76 + k < 24) (B : Int64) : fl_Rn fl_C 127 67 [some (.ref 0), some (.ref r), some (.int (Int32.ofNat (g 1))), none, none, some (.long B), none, some (.int (Int32.ofNat k))] [] (fl_hT tx g r h k) = fl_Rn fl_C 127 67 [some (.ref 0), some (.ref r), some (.int (Int32.ofNat (g 1))), none, none, some (.long B), none, some (.int (Int32.ofNat (k + 1)))] [] (fl_hT tx g r h (k + 1)) := by
  have w4 : g 1 ≤ 4 := w.1.2.1
  have w5 : 1 ≤ g 1 := w.1.1
  have rg := fl_hT_rg (h := h) (tx := tx) (g := g) (r := r) k
  have G : fl_g k0 (fl_hT tx g r h k) := ⟨rg.2.1.trans hg.1, rg.2.2.1.trans hg.2⟩
  have T : fl_iT (fl_hT tx g r h k) tn tx := fl_iT_fr iT (by rw [(rg.2.2.2 259 (by omega)).1]) (rg.2.2.2 261 (by omega)).1 (rg.2.2.2 1 (by omega)).1 (rg.2.2.2 3 (by omega)).2
  have e31 := fc_31 G T
  have e109 := fc_109 G T (a := k * g 1) (n := g 1) w4 hk2 ok
  have p := fl_pt_ok (tx := tx) (a := k * g 1) w4
  have e124 := fc_124 G rr (fl_gT_wf (tx := tx) w k (by omega)) (fl_hT_rn (tx := tx) w d k (by omega)) (by rw [fl_gT_76]; omega) p.1 (by rw [fl_gT_lt (by omega)]; exact p.2)
  have o := rr.1.1
  have o1 := (fl_o1 (k0 := k0)).1
  have n80 := iT.1
  rw [show fl_hT tx g r h (k + 1) = fl_h4 (fl_hT tx g r h k) r (fl_gT tx g k) (fl_pt tx (k * g 1) (g 1)) from rfl]
  clear iT rr w d ok T p rg
  generalize fl_h4 (fl_hT tx g r h k) r (fl_gT tx g k) (fl_pt tx (k * g 1) (g 1)) = H' at *
  generalize fl_hT tx g r h k = H at *
  rw [fbC_127_67]
  simp (disch := omega) only [G.1, G.2, fl_KF, fl_RF, o, o1, fl_lit, fl_nadd, fl_nmul, fl_ndiv, fl_nsub, fl_msub, fl_nle, fl_nlt, fl_neq, fl_nclamp, fl_nin, fl_ltT, fl_ltF, fl_leT, fl_leF, fl_eqT, fl_eqF, decide_true, decide_false, Bool.true_and, Bool.and_true, Bool.false_and, Bool.and_false, if_true, if_false, Bool.false_eq_true, Option.isSome_some, Option.getD_some, not_true_eq_false, not_false_eq_true, Option.toList_some, Option.toList_none, List.cons_append, List.nil_append, e31, fbP_127_85, e109, fbP_127_98, e124, fbP_127_101]
/-- what applies answers -/
def fl_apA (g tx : Nat → Nat) (tn : Nat) : Int32 := if fl_any (fl_bad tx 80) tn = true then -Int32.ofNat 1 - Int32.ofNat (fl_frst (fl_bad tx 80) tn) else if tn % g 1 = 0 then (if g 76 + tn / g 1 ≤ 24 then Int32.ofNat (fl_cnt (fl_hb (fl_dt (fl_gT tx g (tn / g 1)) &&& (fl_dt g ^^^ (-1)))) 64) else -Int32.ofNat 200) else -Int32.ofNat 1 - Int32.ofNat tn
abbrev fl_apK (g tx : Nat → Nat) (tn : Nat) : Prop := fl_any (fl_bad tx 80) tn = false ∧ tn % g 1 = 0 ∧ g 76 + tn / g 1 ≤ 24
theorem fl_bad_ok (b : fl_any (fl_bad tx 80) tn = false) {p : Nat} (hp : p < tn) : fl_sok (tx p) = true := by
  have := fl_any_none b hp
  unfold fl_bad at this
  cases e : fl_sok (tx p) with
  | true => rfl
  | false => rw [e] at this; simp at this
theorem fc_127 (hg : fl_g k0 h) (iT : fl_iT h tn tx) (rr : fl_isR k0 r) (hr : 27 ≤ r ∧ r + 38 < 259) (w : fl_wf g) (d : fl_rn h r g s) (e1 : fl_i h 4 1 = Int32.ofNat 6) : fl_cl fl_C 127 [.ref 0, .ref r] h = some (some (some (.int (fl_apA g tx tn))), if fl_apK g tx tn then fl_z1 (fl_tc6 (fl_hT tx g r h (tn / g 1)) 0 (fl_dt (fl_gT tx g (tn / g 1)) &&& (fl_dt g ^^^ (-1)))) (Int32.ofNat 0) else fl_z1 h (Int32.ofNat 0)) := by
  have w4 : g 1 ≤ 4 := w.1.2.1
  have w5 : 1 ≤ g 1 := w.1.1
  have w7 : g 76 ≤ 24 := w.1.2.2.2.2.2.2.2.1
  have n80 := iT.1
  have o := rr.1.1
  have or := rr.1.2.1
  have on := rr.2.1.1.1
  have i0 := d.1.1.1
  have i3 := d.2.1.1
  have l5 := d.2.2.1.1
  have o1 := (fl_o1 (k0 := k0)).1
  have e31 := fc_31 hg iT
  have e108 := fc_108 hg iT (grp := g 1) (most := 80) w5 w4 (by omega)
  have ex := fun x => fc_127e hg x 0
  have m76 : g 76 * g 1 ≤ 24 * 4 := Nat.mul_le_mul w7 w4
  have dm : tn / g 1 ≤ tn := Nat.div_le_self tn (g 1)
  unfold fl_apA
  by_cases b : fl_any (fl_bad tx 80) tn = true
  · have fp := fl_frst_le (q := fl_bad tx 80) tn
    have n1 : (Int32.ofNat (fl_frst (fl_bad tx 80) tn) = -Int32.ofNat 1) = False := fl_neg1 (by omega)
    rw [if_pos b] at e108 ⊢
    rw [if_neg (fun z => by rw [z.1] at b; cases b)]
    clear iT rr w d
    rw [fbE_127]
    simp (disch := omega) only [hg.1, hg.2, fl_KF, fl_RF, o, or, on, fl_lit, fl_nadd, fl_nmul, fl_ndiv, fl_nsub, fl_msub, fl_nle, fl_nlt, fl_neq, fl_nclamp, fl_nin, fl_ltT, fl_ltF, fl_leT, fl_leF, fl_eqT, fl_eqF, decide_true, decide_false, Bool.true_and, Bool.and_true, Bool.false_and, Bool.and_false, if_true, if_false, Bool.false_eq_true, Option.isSome_some, Option.getD_some, not_true_eq_false, not_false_eq_true, Option.toList_some, Option.toList_none, List.cons_append, List.nil_append, i0, e108, fbP_127_15, n1, ex]
  · rw [if_neg b] at e108 ⊢
    have b' : fl_any (fl_bad tx 80) tn = false := by cases e : fl_any (fl_bad tx 80) tn; rfl; exact absurd e b
    by_cases md : tn % g 1 = 0
    · rw [if_pos md] at e108 ⊢
      have dv : tn / g 1 * g 1 = tn := by have := fl_msub tn (g 1); have := fl_dle tn (g 1); omega
      by_cases l24 : g 76 + tn / g 1 ≤ 24
      · rw [if_pos l24, if_pos ⟨b', md, l24⟩]
        have le : (g 76 * g 1 + tn ≤ 24 * g 1) = True := eq_true (by
          have := Nat.mul_le_mul_right (g 1) l24
          rw [Nat.add_mul, dv] at this
          exact this)
        have ok : ∀ p, p < tn → fl_sok (tx p) = true := fun p hp => fl_bad_ok b' hp
        have lp := fl_iter (fun k => fl_Rn fl_C 127 67 [some (.ref 0), some (.ref r), some (.int (Int32.ofNat (g 1))), none, none, some (.long (fl_l h r 5)), none, some (.int (Int32.ofNat k))] [] (fl_hT tx g r h k)) (tn / g 1) (fun k hk => fc_127s hg iT rr hr w d ok (by omega) (by
          have := Nat.mul_le_mul_right (g 1) (show k + 1 ≤ tn / g 1 by omega)
          rw [dv, Nat.add_mul, Nat.one_mul] at this
          exact this) (by omega) (fl_l h r 5))
        have rg := fl_hT_rg (h := h) (tx := tx) (g := g) (r := r) (tn / g 1)
        have G : fl_g k0 (fl_hT tx g r h (tn / g 1)) := ⟨rg.2.1.trans hg.1, rg.2.2.1.trans hg.2⟩
        have T : fl_iT (fl_hT tx g r h (tn / g 1)) tn tx := fl_iT_fr iT (by rw [(rg.2.2.2 259 (by omega)).1]) (rg.2.2.2 261 (by omega)).1 (rg.2.2.2 1 (by omega)).1 (rg.2.2.2 3 (by omega)).2
        have e31' := fc_31 G T
        have rn' := fl_hT_rn (tx := tx) w d (tn / g 1) l24
        have t := fc_127t G rr (by omega) (by rw [(rg.2.2.2 4 (by omega)).1]; exact e1) (fl_l h r 5)
        have l5' : fl_l (fl_hT tx g r h (tn / g 1)) r 5 = fl_dt (fl_gT tx g (tn / g 1)) := rn'.2.2.1.1
        have l50 : fl_l h r 5 = fl_dt g := l5
        rw [l5', l50] at t
        rw [l50] at lp
        have fin : fl_Rn fl_C 127 67 [some (.ref 0), some (.ref r), some (.int (Int32.ofNat (g 1))), none, none, some (.long (fl_dt g)), none, some (.int (Int32.ofNat (tn / g 1)))] [] (fl_hT tx g r h (tn / g 1)) = fl_Rn fl_C 127 107 [some (.ref 0), some (.ref r), none, none, none, some (.long (fl_dt g))] [] (fl_hT tx g r h (tn / g 1)) := by
          have o1 := (fl_o1 (k0 := k0)).1
          clear lp t rn' T iT rr w d ok le
          rw [fbC_127_67]
          by_cases c : 24 ≤ tn / g 1
          · simp (disch := omega) only [fl_lit, fl_nadd, fl_nmul, fl_ndiv, fl_nsub, fl_msub, fl_nle, fl_nlt, fl_neq, fl_nclamp, fl_nin, fl_ltT, fl_ltF, fl_leT, fl_leF, fl_eqT, fl_eqF, decide_true, decide_false, Bool.true_and, Bool.and_true, Bool.false_and, Bool.and_false, if_true, if_false, Bool.false_eq_true, Option.isSome_some, Option.getD_some, not_true_eq_false, not_false_eq_true, Option.toList_some, Option.toList_none, List.cons_append, List.nil_append]
          · simp (disch := omega) only [G.1, G.2, fl_KF, fl_RF, o1, fl_lit, fl_nadd, fl_nmul, fl_ndiv, fl_nsub, fl_msub, fl_nle, fl_nlt, fl_neq, fl_nclamp, fl_nin, fl_ltT, fl_ltF, fl_leT, fl_leF, fl_eqT, fl_eqF, decide_true, decide_false, Bool.true_and, Bool.and_true, Bool.false_and, Bool.and_false, if_true, if_false, Bool.false_eq_true, Option.isSome_some, Option.getD_some, not_true_eq_false, not_false_eq_true, Option.toList_some, Option.toList_none, List.cons_append, List.nil_append, e31', fbP_127_85, dv]
        try dsimp only at lp
        have lp' := (lp.trans fin).trans t
        rw [show fl_hT tx g r h 0 = h from rfl] at lp'
        clear lp fin t T rn' iT rr w d ok rg
        rw [fbE_127]
        simp (disch := omega) only [hg.1, hg.2, fl_KF, fl_RF, o, or, on, o1, fl_lit, fl_nadd, fl_nmul, fl_ndiv, fl_nsub, fl_msub, fl_nle, fl_nlt, fl_neq, fl_nclamp, fl_nin, fl_ltT, fl_ltF, fl_leT, fl_leF, fl_eqT, fl_eqF, decide_true, decide_false, Bool.true_and, Bool.and_true, Bool.false_and, Bool.and_false, if_true, if_false, Bool.false_eq_true, Option.isSome_some, Option.getD_some, not_true_eq_false, not_false_eq_true, Option.toList_some, Option.toList_none, List.cons_append, List.nil_append, i0, e108, fbP_127_15, eq_self, i3, e31, fbP_127_42, le, l50, lp']
      · rw [if_neg l24, if_neg (fun z => l24 z.2.2)]
        have le : (g 76 * g 1 + tn ≤ 24 * g 1) = False := eq_false (fun z => by
          have := Nat.mul_le_mul_right (g 1) (show 25 ≤ g 76 + tn / g 1 by omega)
          rw [Nat.add_mul, dv] at this
          omega)
        clear iT rr w d
        rw [fbE_127]
        simp (disch := omega) only [hg.1, hg.2, fl_KF, fl_RF, o, or, on, o1, fl_lit, fl_nadd, fl_nmul, fl_ndiv, fl_nsub, fl_msub, fl_nle, fl_nlt, fl_neq, fl_nclamp, fl_nin, fl_ltT, fl_ltF, fl_leT, fl_leF, fl_eqT, fl_eqF, decide_true, decide_false, Bool.true_and, Bool.and_true, Bool.false_and, Bool.and_false, if_true, if_false, Bool.false_eq_true, Option.isSome_some, Option.getD_some, not_true_eq_false, not_false_eq_true, Option.toList_some, Option.toList_none, List.cons_append, List.nil_append, i0, e108, fbP_127_15, eq_self, i3, e31, fbP_127_42, le, ex]
    · rw [if_neg md] at e108 ⊢
      rw [if_neg (fun z => md z.2.1)]
      have n1 : (Int32.ofNat tn = -Int32.ofNat 1) = False := fl_neg1 (by omega)
      clear iT rr w d
      rw [fbE_127]
      simp (disch := omega) only [hg.1, hg.2, fl_KF, fl_RF, o, or, on, fl_lit, fl_nadd, fl_nmul, fl_ndiv, fl_nsub, fl_msub, fl_nle, fl_nlt, fl_neq, fl_nclamp, fl_nin, fl_ltT, fl_ltF, fl_leT, fl_leF, fl_eqT, fl_eqF, decide_true, decide_false, Bool.true_and, Bool.and_true, Bool.false_and, Bool.and_false, if_true, if_false, Bool.false_eq_true, Option.isSome_some, Option.getD_some, not_true_eq_false, not_false_eq_true, Option.toList_some, Option.toList_none, List.cons_append, List.nil_append, i0, e108, fbP_127_15, n1, ex]
end
