/-! A TICK of a run of the class, whole -/
theorem fl_i64 {x : Nat} (hx : x < 2147483648) : Int32.toInt64 (Int32.ofNat x) = Int64.ofNat x := Int32.toInt64_ofNat' (by rw [show (Int32.maxValue.toInt : Int) = 2147483647 from rfl]; omega)
section
variable {k0 : Nat → Nat × Nat} {h : fl_H} {g : Nat → Nat} {r pt : Nat} {s : Int64}
def fl_h3a (h : fl_H) (r : Nat) (g : Nat → Nat) (pt : Nat) : fl_H := fl_wl (fl_h2 h r g pt) r (fl_up (fl_l (fl_h2 h r g pt) r) 6 (fl_l (fl_h2 h r g pt) r 6 ||| fl_B (fl_sw g pt)))
def fl_h3 (h : fl_H) (r : Nat) (g : Nat → Nat) (pt : Nat) : fl_H := if g 77 = 0 then fl_h2 h r g pt else fl_ww (fl_h3a h r g pt) (r + 14 + 10 + 6) (r + 14 + 10 + 8) (fl_al 12 (fun j => (fl_l (fl_h3a h r g pt) (r + 14 + 10 + 6) j &&& (fl_B (fl_sw g pt) ^^^ (-1))) ||| (fl_l (fl_h3a h r g pt) (r + 14 + 1 + 6) j &&& fl_B (fl_sw g pt))) (fl_l (fl_h3a h r g pt) (r + 14 + 10 + 6))) (fl_al 12 (fun j => (fl_l (fl_h3a h r g pt) (r + 14 + 10 + 8) j &&& (fl_B (fl_sw g pt) ^^^ (-1))) ||| (fl_l (fl_h3a h r g pt) (r + 14 + 1 + 8) j &&& fl_B (fl_sw g pt))) (fl_l (fl_h3a h r g pt) (r + 14 + 10 + 8)))
def fl_h4 (h : fl_H) (r : Nat) (g : Nat → Nat) (pt : Nat) : fl_H := fl_wi (fl_wl (fl_h3 h r g pt) (r + 34) (fl_up (fl_l h (r + 34)) (g 76) (Int64.ofNat pt))) r (fl_up (fl_i h r) 3 (Int32.ofNat (g 76 + 1)))
theorem fl_h3_i : fl_i (fl_h3 h r g pt) = fl_i h := by
  unfold fl_h3
  split
  · exact fl_h2_i
  · unfold fl_h3a
    rw [fl_i_ww, fl_i_wl, fl_h2_i]
theorem fl_h3_k : fl_k (fl_h3 h r g pt) = fl_k h := by
  unfold fl_h3
  split
  · exact fl_h2_k
  · unfold fl_h3a
    rw [fl_k_ww, fl_k_wl, fl_h2_k]
theorem fl_h3_r : fl_r (fl_h3 h r g pt) = fl_r h := by
  unfold fl_h3
  split
  · exact fl_h2_rr
  · unfold fl_h3a
    rw [fl_r_ww, fl_r_wl, fl_h2_rr]
theorem fl_h3_1 : (fl_h3 h r g pt).1 = h.1 := by
  unfold fl_h3
  split
  · exact fl_h2_1
  · unfold fl_h3a
    rw [fl_1_ww, fl_1_wl, fl_h2_1]
theorem fl_h2_lo {q : Nat} (h0 : q ≠ r) (h1 : q ≠ r + 36) (h2 : q ≠ r + 38) : fl_l (fl_h2 h r g pt) q = fl_l (fl_h1 h r g pt) q := by
  unfold fl_h2
  rw [fl_l_wl, if_neg h0, fl_ww_lo h1 h2]
theorem fl_h2_r : fl_l (fl_h2 h r g pt) r = fl_up (fl_l h r) 5 (fl_l h r 5 ||| fl_B (fl_fr g pt)) := by
  unfold fl_h2
  rw [fl_l_wl, if_pos rfl]
theorem fl_h3a_lo {q : Nat} (h0 : q ≠ r) : fl_l (fl_h3a h r g pt) q = fl_l (fl_h2 h r g pt) q := by
  unfold fl_h3a
  rw [fl_l_wl, if_neg h0]
theorem fl_h3_lo {q : Nat} (h0 : q ≠ r) (h6 : q ≠ r + 14 + 10 + 6) (h8 : q ≠ r + 14 + 10 + 8) : fl_l (fl_h3 h r g pt) q = fl_l (fl_h2 h r g pt) q := by
  unfold fl_h3
  split
  · rfl
  · rw [fl_ww_lo h6 h8, fl_h3a_lo h0]
theorem fc_124 (hg : fl_g k0 h) (rr : fl_isR k0 r) (w : fl_wf g) (d : fl_rn h r g s) (hn : g 76 < 24) (hp : pt < 256) (hp2 : ∀ k, k < g 1 → pt / 4 ^ k % 4 ≤ 2) : fl_cl fl_C 124 [.ref r, .int (Int32.ofNat pt)] h = some (some none, fl_h4 h r g pt) := by
  rw [fc_124a hg rr w d hn hp hp2, fbP_124_54]
  have i3 := d.2.1.1
  have i4 := d.2.1.2
  have w7 : g 77 ≤ 1 := w.1.2.2.2.2.2.2.2.2
  have k2 : fl_k (fl_h2 h r g pt) = fl_KK k0 := fl_h2_k.trans hg.1
  have r2 : fl_r (fl_h2 h r g pt) = fl_RR := fl_h2_rr.trans hg.2
  have hg3 : fl_g k0 (fl_h3 h r g pt) := ⟨fl_h3_k.trans hg.1, fl_h3_r.trans hg.2⟩
  have e34 : fl_l (fl_h3 h r g pt) (r + 34) = fl_l h (r + 34) := by
    rw [fl_h3_lo (by omega) (by omega) (by omega), fl_h2_lo (by omega) (by omega) (by omega), fl_h1_lo (by omega)]
  have epat := fc_put rr.2.2.2.1 hg3 (i := g 76) hn (Int64.ofNat pt)
  rw [e34] at epat
  have fin : fl_Rn fl_C 124 89 [some (.ref r), some (.int (Int32.ofNat pt))] [] (fl_h3 h r g pt) = some (some none, fl_h4 h r g pt) := by
    have e64 := fl_i64 (show pt < 2147483648 by omega)
    have i3' := fl_h3_i (h := h) (r := r) (g := g) (pt := pt)
    clear w d hp2 e34
    unfold fl_h4
    rw [fbC_124_89]
    simp (disch := omega) only [fl_k_wl, fl_r_wl, fl_i_wl, fl_l_wl, fl_1_wl, fl_k_wi, fl_r_wi, fl_l_wi, fl_1_wi, fl_i_wi, fl_k_si, fl_r_si, fl_l_si, fl_k_sl, fl_r_sl, fl_i_sl, fl_up_self, fl_up_ne, fl_si_wi, fl_sl_wl, fl_wi_wi, fl_wl_wl, hg3.1, hg3.2, rr.1, rr.2.2.2.1, fl_lit, fl_nadd, fl_nmul, fl_ndiv, fl_nsub, fl_msub, fl_nle, fl_nlt, fl_neq, fl_nclamp, fl_nin, fl_ltT, fl_ltF, fl_leT, fl_leF, fl_eqT, fl_eqF, decide_true, decide_false, Bool.true_and, Bool.and_true, Bool.false_and, Bool.and_false, if_true, if_false, Bool.false_eq_true, Option.isSome_some, Option.getD_some, not_true_eq_false, not_false_eq_true, Option.toList_some, Option.toList_none, List.cons_append, List.nil_append, i3', i3, e64, epat, fbP_124_102]
  by_cases c : g 77 = 0
  · have e3 : fl_h3 h r g pt = fl_h2 h r g pt := if_pos c
    rw [e3] at fin
    clear w d hp2 e34 epat e3
    simp (disch := omega) only [k2, r2, rr.1, fl_lit, fl_nadd, fl_nmul, fl_ndiv, fl_nsub, fl_msub, fl_nle, fl_nlt, fl_neq, fl_nclamp, fl_nin, fl_ltT, fl_ltF, fl_leT, fl_leF, fl_eqT, fl_eqF, decide_true, decide_false, Bool.true_and, Bool.and_true, Bool.false_and, Bool.and_false, if_true, if_false, Bool.false_eq_true, Option.isSome_some, Option.getD_some, not_true_eq_false, not_false_eq_true, Option.toList_some, Option.toList_none, List.cons_append, List.nil_append, fl_h2_i, i4, c, fin]
  · have hg3a : fl_g k0 (fl_h3a h r g pt) := ⟨by unfold fl_h3a; rw [fl_k_wl]; exact k2, by unfold fl_h3a; rw [fl_r_wl]; exact r2⟩
    have e123 := fc_123 hg3a rr.2.2.1.2.2 rr.2.2.1.2.1 (by omega) (fl_B (fl_sw g pt))
    have e123' : fl_cl fl_C 123 [.ref (r + 14 + 10), .ref (r + 14 + 1), .long (fl_B (fl_sw g pt))] (fl_h3a h r g pt) = some (some none, fl_h3 h r g pt) := by
      unfold fl_h3
      rw [if_neg c]
      exact e123
    have k3 : fl_k (fl_h3a h r g pt) = fl_KK k0 := hg3a.1
    have r3 : fl_r (fl_h3a h r g pt) = fl_RR := hg3a.2
    have ea : fl_sl (fl_h2 h r g pt) r 6 (fl_l (fl_h2 h r g pt) r 6 ||| fl_B (fl_sw g pt)) = fl_h3a h r g pt := by unfold fl_h3a; exact fl_sl_wl
    clear w d hp2 e34 epat e123
    simp (disch := omega) only [k2, r2, k3, r3, rr.1, rr.2.2.1.1, rr.2.2.1.2.2.1, fl_lit, fl_nadd, fl_nmul, fl_ndiv, fl_nsub, fl_msub, fl_nle, fl_nlt, fl_neq, fl_nclamp, fl_nin, fl_ltT, fl_ltF, fl_leT, fl_leF, fl_eqT, fl_eqF, decide_true, decide_false, Bool.true_and, Bool.and_true, Bool.false_and, Bool.and_false, if_true, if_false, Bool.false_eq_true, Option.isSome_some, Option.getD_some, not_true_eq_false, not_false_eq_true, Option.toList_some, Option.toList_none, List.cons_append, List.nil_append, fl_h2_i, i4, ea, fbC_124_71, e123', fbP_124_89, fin]
theorem fl_h4_rg : fl_rg r (r + 38) h (fl_h4 h r g pt) := by
  refine ⟨by unfold fl_h4; rw [fl_1_wi, fl_1_wl]; exact fl_h3_1, by unfold fl_h4; rw [fl_k_wi, fl_k_wl]; exact fl_h3_k, by unfold fl_h4; rw [fl_r_wi, fl_r_wl]; exact fl_h3_r, fun q hq => ⟨?_, ?_⟩⟩
  · unfold fl_h4
    rw [fl_i_wi, if_neg (by omega), fl_i_wl, fl_h3_i]
  · unfold fl_h4
    rw [fl_l_wi, fl_l_wl, if_neg (by omega), fl_h3_lo (by omega) (by omega) (by omega), fl_h2_lo (by omega) (by omega) (by omega), fl_h1_lo (by omega)]
theorem fl_net_cg {H : fl_H} {n : Nat} {g' : Nat → Nat} (w : fl_wf g) (e : ∀ j, j < 76 → g' j = g j) (d : fl_net H n g) : fl_net H n g' := by
  have w1 := w.1
  refine ⟨?_, ?_, ?_, ?_, ?_, ?_, ?_⟩
  · rw [e 1 (by omega), e 0 (by omega), e 2 (by omega), e 3 (by omega), show fl_cnt (fun k => decide (g' (4 + k) = 8)) (g 0) = fl_cnt (fun k => decide (g (4 + k) = 8)) (g 0) from fl_cnt_congr fun k hk => by rw [e _ (by omega)]]
    exact d.1
  · rw [e 0 (by omega)]; intro k hk; rw [e _ (by omega)]; exact d.2.1 k hk
  · rw [e 0 (by omega)]; intro k hk; rw [e _ (by omega)]; exact d.2.2.1 k hk
  · rw [e 0 (by omega)]; intro k hk; rw [e _ (by omega), e _ (by omega)]; exact d.2.2.2.1 k hk
  · rw [e 0 (by omega)]; intro k hk; rw [e _ (by omega), e _ (by omega)]; exact d.2.2.2.2.1 k hk
  · rw [e 2 (by omega)]; intro p hp; rw [e _ (by omega)]; exact d.2.2.2.2.2.1 p hp
  · rw [e 3 (by omega)]; intro j hj; rw [e _ (by omega)]; exact d.2.2.2.2.2.2 j hj
end
