/-! THE TEXT, kept by both: frames; end -/
def fl_qT (h h' : fl_H) : Prop := h'.1 = h.1 ∧ fl_k h' = fl_k h ∧ fl_r h' = fl_r h ∧ (∀ q, q ≠ 3 → fl_l h' q = fl_l h q) ∧ ∀ q j, ¬ fl_scr q j → ¬ (q = 259 ∧ j = 4) → ¬ (q = 1 ∧ j = 2) → q ≠ 261 → fl_i h' q j = fl_i h q j
section
variable {k0 : Nat → Nat × Nat} {h h' h'' : fl_H} {c : Nat × Nat × Nat × Bool}
theorem fl_qT_tr (a : fl_qT h h') (b : fl_qT h' h'') : fl_qT h h'' := ⟨b.1.trans a.1, b.2.1.trans a.2.1, b.2.2.1.trans a.2.2.1, fun q h1 => (b.2.2.2.1 q h1).trans (a.2.2.2.1 q h1), fun q j h1 h2 h3 h4 => (b.2.2.2.2 q j h1 h2 h3 h4).trans (a.2.2.2.2 q j h1 h2 h3 h4)⟩
theorem fl_qt_qT (a : fl_qt h h') : fl_qT h h' := ⟨a.1, a.2.1, a.2.2.1, fun q _ => by rw [a.2.2.2.1], fun q j h1 _ _ _ => a.2.2.2.2 q j h1⟩
theorem fl_qT_g (hg : fl_g k0 h) (a : fl_qT h h') : fl_g k0 h' := ⟨a.2.1.trans hg.1, a.2.2.1.trans hg.2⟩
theorem fl_Inv_qT (I : fl_Inv k0 c h) (a : fl_qT h h') {n : Nat} {tx : Nat → Nat} (hn : n ≤ 80) (e1 : fl_i h' 259 4 = Int32.ofNat n) (e2 : fl_i h' 1 2 = Int32.ofNat n) (e3 : ∀ j, j < n → tx j < 256 ∧ fl_i h' 261 j = Int32.ofNat (tx j) ∧ fl_l h' 3 j = Int64.ofNat (tx j)) : fl_Inv k0 c h' := by
  obtain ⟨hg, hc, ⟨tn, tx0, iT⟩, ⟨rn, rv, iO⟩, ⟨cn, ck, cm, iC⟩, g, g1, g2, b1, b2, s, s1, s2, iG⟩ := I
  have ei : ∀ q, q ≠ 259 → q ≠ 1 → q ≠ 261 → (q < 266 ∨ 282 < q) → fl_i h' q = fl_i h q := fun q h1 h2 h3 h4 => by
    funext j
    exact a.2.2.2.2 q j (by omega) (by omega) (by omega) h3
  have el : ∀ q, q ≠ 3 → fl_l h' q = fl_l h q := a.2.2.2.1
  refine ⟨fl_qT_g hg a, a.1.trans hc, ⟨n, tx, hn, e1, ?_, e2, e3⟩, ⟨rn, rv, ?_⟩, ⟨cn, ck, cm, ?_⟩, g, g1, g2, b1, b2, s, s1, s2, ?_⟩
  · rw [a.2.2.2.2 1 1 (by omega) (by omega) (by omega) (by omega)]; exact iT.2.2.1
  · exact fl_iO_fr iO (a.2.2.2.2 259 1 (by omega) (by omega) (by omega) (by omega)) (el 260 (by omega)) (ei 4 (by omega) (by omega) (by omega) (by omega)) (el 6 (by omega))
  · exact fl_iC_fr iC (a.2.2.2.2 259 11 (by omega) (by omega) (by omega) (by omega)) (ei 264 (by omega) (by omega) (by omega) (by omega)) (ei 265 (by omega) (by omega) (by omega) (by omega)) (ei 21 (by omega) (by omega) (by omega) (by omega)) (ei 24 (by omega) (by omega) (by omega) (by omega)) (el 23 (by omega)) (el 26 (by omega))
  · exact fl_iG_fr iG (ei 262 (by omega) (by omega) (by omega) (by omega)) (el 263 (by omega)) (by rw [ei 0 (by omega) (by omega) (by omega) (by omega)]) (by rw [ei 0 (by omega) (by omega) (by omega) (by omega)]) (ei 283 (by omega) (by omega) (by omega) (by omega)) (fun q h1 h2 => ⟨ei q (by omega) (by omega) (by omega) (by omega), el q (by omega)⟩)
/-- the size of the text, the class's and the reference's -/
def fl_z1 (h : fl_H) (p : Int32) : fl_H := fl_wi h 1 (fl_up (fl_i h 1) 2 p)
def fl_z4 (h : fl_H) (p : Int32) : fl_H := fl_wi h 259 (fl_up (fl_i h 259) 4 p)
theorem fl_z1_qT {p : Int32} : fl_qT h (fl_z1 h p) := by
  unfold fl_z1
  refine ⟨by rw [fl_1_wi], by rw [fl_k_wi], by rw [fl_r_wi], fun q h1 => by rw [fl_l_wi], fun q j h1 h2 h3 h4 => ?_⟩
  rw [fl_i_wi]
  by_cases e : q = 1
  · subst e; rw [if_pos rfl, fl_up_ne (by omega)]
  · rw [if_neg e]
theorem fl_z4_qT {p : Int32} : fl_qT h (fl_z4 h p) := by
  unfold fl_z4
  refine ⟨by rw [fl_1_wi], by rw [fl_k_wi], by rw [fl_r_wi], fun q h1 => by rw [fl_l_wi], fun q j h1 h2 h3 h4 => ?_⟩
  rw [fl_i_wi]
  by_cases e : q = 259
  · subst e; rw [if_pos rfl, fl_up_ne (by omega)]
  · rw [if_neg e]
theorem fo_end_a {n : Nat} (hg : fl_g k0 h) (hn : n ≤ 80) (e2 : fl_i h 1 2 = Int32.ofNat n) (p : Int32) : fl_cl fl_C 36 [.ref 0, .int p] h = some (some (some (.int (if fl_in p (n + 1) = true then Int32.ofNat 1 else Int32.ofNat 0))), if fl_in p (n + 1) = true then fl_z1 h p else h) := by
  have o1 : fl_KK k0 1 = (1, 5) := fl_o1.1.1
  have e35 : fl_cl fl_C 35 [.ref 1, .int p] h = some (some (some (.int (if fl_in p (n + 1) = true then Int32.ofNat 1 else Int32.ofNat 0))), if fl_in p (n + 1) = true then fl_z1 h p else h) := by
    by_cases c0 : fl_in p (n + 1) = true
    · rw [if_pos c0, if_pos c0]
      obtain ⟨k, hk, rfl⟩ := fl_in_ex c0
      unfold fl_z1
      rw [fbE_35]
      simp (disch := omega) only [fl_k_wl, fl_r_wl, fl_i_wl, fl_l_wl, fl_1_wl, fl_k_wi, fl_r_wi, fl_l_wi, fl_1_wi, fl_i_wi, fl_k_si, fl_r_si, fl_l_si, fl_k_sl, fl_r_sl, fl_i_sl, fl_up_self, fl_up_ne, fl_si_wi, fl_sl_wl, fl_wi_wi, fl_wl_wl, hg.1, hg.2, o1, e2, fl_lit, fl_nadd, fl_nmul, fl_ndiv, fl_nsub, fl_msub, fl_nle, fl_nlt, fl_neq, fl_nclamp, fl_nin, fl_ltT, fl_ltF, fl_leT, fl_leF, fl_eqT, fl_eqF, decide_true, decide_false, Bool.true_and, Bool.and_true, Bool.false_and, Bool.and_false, if_true, if_false, Bool.false_eq_true, Option.isSome_some, Option.getD_some, not_true_eq_false, not_false_eq_true, Option.toList_some, Option.toList_none, List.cons_append, List.nil_append, fbC_35_19]
    · rw [if_neg c0, if_neg c0, fbE_35]
      by_cases l : p < 0
      · rw [fl_ifd l, fbC_35_12]; rfl
      · have l2 : ¬ p ≤ Int32.ofNat n := fun z => c0 (fl_in_iff.mpr ⟨l, by
          have h3 := fl_i32_nat l
          rw [Int32.le_iff_toInt_le, fl_toI (by omega)] at z
          omega⟩)
        rw [fl_ifn l]
        simp (disch := omega) only [hg.1, o1, e2, fl_lit, fl_nadd, fl_nmul, fl_ndiv, fl_nsub, fl_msub, fl_nle, fl_nlt, fl_neq, fl_nclamp, fl_nin, fl_ltT, fl_ltF, fl_leT, fl_leF, fl_eqT, fl_eqF, decide_true, decide_false, Bool.true_and, Bool.and_true, Bool.false_and, Bool.and_false, if_true, if_false, Bool.false_eq_true, Option.isSome_some, Option.getD_some, not_true_eq_false, not_false_eq_true, Option.toList_some, Option.toList_none, List.cons_append, List.nil_append, eq_false l2, fbC_35_12]
  rw [fbE_36]
  simp (disch := omega) only [hg.1, hg.2, fl_KF, fl_RF, o1, fl_lit, fl_nadd, fl_nmul, fl_ndiv, fl_nsub, fl_msub, fl_nle, fl_nlt, fl_neq, fl_nclamp, fl_nin, fl_ltT, fl_ltF, fl_leT, fl_leF, fl_eqT, fl_eqF, decide_true, decide_false, Bool.true_and, Bool.and_true, Bool.false_and, Bool.and_false, if_true, if_false, Bool.false_eq_true, Option.isSome_some, Option.getD_some, not_true_eq_false, not_false_eq_true, Option.toList_some, Option.toList_none, List.cons_append, List.nil_append, e35]
  by_cases c0 : fl_in p (n + 1) = true
  · rw [if_pos c0, if_pos c0, fbP_36_8]; rfl
  · rw [if_neg c0, if_neg c0, fbP_36_8]; rfl
theorem fl_in64n {n : Nat} (hn : n < 2147483647) (k : Int32) : (0 ≤ Int32.toInt64 k ∧ Int32.toInt64 k ≤ Int32.toInt64 (Int32.ofNat n)) ↔ fl_in k (n + 1) = true := by
  have := fl_in64 (n := n + 1) (by omega) k
  rw [fl_nsub (by omega), Nat.add_sub_cancel] at this
  exact this
theorem fo_end_b {n : Nat} (hg : fl_g k0 h) (hn : n ≤ 80) (e2 : fl_i h 259 4 = Int32.ofNat n) (p : Int32) : ∃ y, fl_cl fl_C 38 [.ref 259, .int p] h = some (some (some (.int (if fl_in p (n + 1) = true then Int32.ofNat 1 else Int32.ofNat 0))), if fl_in p (n + 1) = true then fl_z4 y p else y) ∧ fl_qt h y := by
  have q0 := fl_qt_0 (h := h) (x := Int32.ofNat 0)
  have e37 := fr_37 (h := fl_wi h 259 (fl_up (fl_i h 259) 0 (Int32.ofNat 0))) (Int32.toInt64 p) 0 (Int32.toInt64 (Int32.ofNat n))
  refine ⟨_, ?_, q0⟩
  have ew := fl_in64n (n := n) (by omega) p
  by_cases c0 : fl_in p (n + 1) = true
  · rw [if_pos (ew.mpr c0)] at e37
    rw [if_pos c0, if_pos c0, fbE_38]
    unfold fl_z4
    simp (disch := omega) only [fl_k_wl, fl_r_wl, fl_i_wl, fl_l_wl, fl_1_wl, fl_k_wi, fl_r_wi, fl_l_wi, fl_1_wi, fl_i_wi, fl_k_si, fl_r_si, fl_l_si, fl_k_sl, fl_r_sl, fl_i_sl, fl_up_self, fl_up_ne, fl_si_wi, fl_sl_wl, fl_wi_wi, fl_wl_wl, hg.1, hg.2, fl_KM, fl_RM, fl_lit, fl_nadd, fl_nmul, fl_ndiv, fl_nsub, fl_msub, fl_nle, fl_nlt, fl_neq, fl_nclamp, fl_nin, fl_ltT, fl_ltF, fl_leT, fl_leF, fl_eqT, fl_eqF, decide_true, decide_false, Bool.true_and, Bool.and_true, Bool.false_and, Bool.and_false, if_true, if_false, Bool.false_eq_true, Option.isSome_some, Option.getD_some, not_true_eq_false, not_false_eq_true, Option.toList_some, Option.toList_none, List.cons_append, List.nil_append, e2, e37, fbC_38_5, fbC_38_26, fbP_38_16]
  · rw [if_neg (fun z => c0 (ew.mp z))] at e37
    rw [if_neg c0, if_neg c0, fbE_38]
    simp (disch := omega) only [fl_k_wl, fl_r_wl, fl_i_wl, fl_l_wl, fl_1_wl, fl_k_wi, fl_r_wi, fl_l_wi, fl_1_wi, fl_i_wi, fl_k_si, fl_r_si, fl_l_si, fl_k_sl, fl_r_sl, fl_i_sl, fl_up_self, fl_up_ne, fl_si_wi, fl_sl_wl, fl_wi_wi, fl_wl_wl, hg.1, hg.2, fl_KM, fl_RM, fl_lit, fl_nadd, fl_nmul, fl_ndiv, fl_nsub, fl_msub, fl_nle, fl_nlt, fl_neq, fl_nclamp, fl_nin, fl_ltT, fl_ltF, fl_leT, fl_leF, fl_eqT, fl_eqF, decide_true, decide_false, Bool.true_and, Bool.and_true, Bool.false_and, Bool.and_false, if_true, if_false, Bool.false_eq_true, Option.isSome_some, Option.getD_some, not_true_eq_false, not_false_eq_true, Option.toList_some, Option.toList_none, List.cons_append, List.nil_append, e2, e37, fbC_38_5, fbC_38_26, fbP_38_16]
theorem fo_end (I : fl_Inv k0 c h) (p : Int32) : fl_both k0 c 36 38 [.int p] [.int p] h := by
  obtain ⟨tn, tx, iT⟩ := I.2.2.1
  have a := fo_end_a I.1 iT.1 iT.2.2.2.1 p
  by_cases c0 : fl_in p (tn + 1) = true
  · rw [if_pos c0, if_pos c0] at a
    have q1 := fl_z1_qT (h := h) (p := p)
    obtain ⟨y, e, q⟩ := fo_end_b (fl_qT_g I.1 q1) iT.1 (by unfold fl_z1; rw [fl_i_wi, if_neg (by omega)]; exact iT.2.1) p
    rw [if_pos c0, if_pos c0] at e
    obtain ⟨k, hk, rfl⟩ := fl_in_ex c0
    refine ⟨_, _, _, a, e, ?_⟩
    refine fl_Inv_qT I (fl_qT_tr q1 (fl_qT_tr (fl_qt_qT q) fl_z4_qT)) (n := k) (tx := tx) (by have := iT.1; omega) ?_ ?_ (fun j hj => ?_)
    · unfold fl_z4; rw [fl_i_wi, if_pos rfl, fl_up_self]
    · unfold fl_z4; rw [fl_i_wi, if_neg (by omega), q.2.2.2.2 1 2 (by omega)]; unfold fl_z1; rw [fl_i_wi, if_pos rfl, fl_up_self]
    · have := iT.2.2.2.2 j (by omega)
      refine ⟨this.1, ?_, ?_⟩
      · unfold fl_z4; rw [fl_i_wi, if_neg (by omega), q.2.2.2.2 261 j (by omega)]; unfold fl_z1; rw [fl_i_wi, if_neg (by omega)]; exact this.2.1
      · unfold fl_z4; rw [fl_l_wi, q.2.2.2.1]; unfold fl_z1; rw [fl_l_wi]; exact this.2.2
  · rw [if_neg c0, if_neg c0] at a
    obtain ⟨y, e, q⟩ := fo_end_b I.1 iT.1 iT.2.1 p
    rw [if_neg c0, if_neg c0] at e
    exact ⟨_, h, _, a, e, fl_Inv_qt I q⟩
end
