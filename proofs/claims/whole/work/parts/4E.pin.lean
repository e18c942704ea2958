/-! pin: what is thrown, and caught by the law -/
theorem fbP_103_7n (h : fl_H) (s0 : Int32) (s1 : Nat) (x : Int32) : fl_ca fl_C 103 7 [] [.int s0, .ref s1] [(Int32.ofNat 0, 13)] (some (some (some (.int x)), h)) = if (decide ((fl_k h s1).1 = 3) && fl_in s0 (fl_k h s1).2) = true then (some (some (some (.int 0)), fl_sl h s1 (Int32.toNatClampNeg s0) (Int32.toInt64 x))) else none := fbP_103_7 h s0 s1 x
theorem fbX_103_7n (h : fl_H) (s0 : Int32) (s1 : Nat) : fl_ca fl_C 103 7 [] [.int s0, .ref s1] [(Int32.ofNat 0, 13)] (some (none, h)) = some (some (some (.int 1)), h) := fbX_103_7 h s0 s1
theorem fbP_94_8n (h : fl_H) (s0 : Int32) (s1 : Nat) (x : Int32) : fl_ca fl_C 94 8 [] [.int s0, .ref s1] [(Int32.ofNat 0, 15)] (some (some (some (.int x)), h)) = if (decide ((fl_k h s1).1 = 3) && fl_in s0 (fl_k h s1).2) = true then (some (some (some (.int 0)), fl_sl h s1 (Int32.toNatClampNeg s0) (Int32.toInt64 x))) else none := fbP_94_8 h s0 s1 x
theorem fbX_94_8n (h : fl_H) (s0 : Int32) (s1 : Nat) : fl_ca fl_C 94 8 [] [.int s0, .ref s1] [(Int32.ofNat 0, 15)] (some (none, h)) = some (some (some (.int 1)), h) := fbX_94_8 h s0 s1
theorem fbP_263_7n (h : fl_H) (s0 : Int32) (s1 : Nat) (x : Int64) : fl_ca fl_C 263 7 [] [.int s0, .ref s1] [(Int32.ofNat 0, 12)] (some (some (some (.long x)), h)) = if (decide ((fl_k h s1).1 = 3) && fl_in s0 (fl_k h s1).2) = true then (some (some (some (.int 0)), fl_sl h s1 (Int32.toNatClampNeg s0) x)) else none := fbP_263_7 h s0 s1 x
theorem fbX_263_7n (h : fl_H) (s0 : Int32) (s1 : Nat) : fl_ca fl_C 263 7 [] [.int s0, .ref s1] [(Int32.ofNat 0, 12)] (some (none, h)) = some (some (some (.int 1)), h) := fbX_263_7 h s0 s1
def fl_cth (c : Nat × Nat × Nat × Bool) : Nat × Nat × Nat × Bool := (c.1, c.2.1 + 1, c.2.2.1 + 6, false)
section
variable {k0 : Nat → Nat × Nat} {h h' : fl_H} {c : Nat × Nat × Nat × Bool}
theorem fl_Inv_th (I : fl_Inv k0 c h) : fl_Inv k0 (fl_cth c) (fl_th h) := by
  obtain ⟨hg, hc, iT, iO, iC, iG⟩ := I
  refine ⟨hg, ?_, iT, iO, iC, iG⟩
  rw [← hc]
  rfl
theorem fl_Inv_out (I : fl_Inv k0 c h) (f : Nat → Int64) : fl_Inv k0 c (fl_wl h 284 f) := by
  obtain ⟨hg, hc, ⟨tn, tx, iT⟩, ⟨rn, rv, iO⟩, ⟨cn, ck, cm, iC⟩, g, g1, g2, b1, b2, s, s1, s2, iG⟩ := I
  have el : ∀ q, q ≠ 284 → fl_l (fl_wl h 284 f) q = fl_l h q := fun q hq => by rw [fl_l_wl, if_neg hq]
  refine ⟨⟨by rw [fl_k_wl]; exact hg.1, by rw [fl_r_wl]; exact hg.2⟩, by rw [fl_1_wl]; exact hc, ⟨tn, tx, ?_⟩, ⟨rn, rv, ?_⟩, ⟨cn, ck, cm, ?_⟩, g, g1, g2, b1, b2, s, s1, s2, ?_⟩
  · exact fl_iT_fr iT (by rw [fl_i_wl]) (by rw [fl_i_wl]) (by rw [fl_i_wl]) (el 3 (by omega))
  · exact fl_iO_fr iO (by rw [fl_i_wl]) (el 260 (by omega)) (by rw [fl_i_wl]) (el 6 (by omega))
  · exact fl_iC_fr iC (by rw [fl_i_wl]) (by rw [fl_i_wl]) (by rw [fl_i_wl]) (by rw [fl_i_wl]) (by rw [fl_i_wl]) (el 23 (by omega)) (el 26 (by omega))
  · exact fl_iG_fr iG (by rw [fl_i_wl]) (el 263 (by omega)) (by rw [fl_i_wl]) (by rw [fl_i_wl]) (by rw [fl_i_wl]) (fun q h1 h2 => ⟨by rw [fl_i_wl], el q (by omega)⟩)
/-- both throw, or both answer v -/
def fl_bothT (k0 : Nat → Nat × Nat) (c : Nat × Nat × Nat × Bool) (x m : Nat) (as : List Value) (h : fl_H) : Prop := ∃ t b h1 h2 c', (c' = c ∨ c' = fl_cth c) ∧ fl_cl fl_C x (.ref 0 :: (as ++ [.ref 284])) h = some (some (some (.int t)), h1) ∧ fl_cl fl_C m (.ref 259 :: as) h1 = some (some (some (.int b)), h2) ∧ fl_cl fl_C 101 [.ref 259] h2 = some (some (some (.int t)), h2) ∧ (t = Int32.ofNat 0 → fl_l h2 284 0 = Int32.toInt64 b) ∧ fl_Inv k0 c' h2
theorem fr_101 (hg : fl_g k0 h) : fl_cl fl_C 101 [.ref 259] h = some (some (some (.int (fl_i h 259 0))), h) := by
  rw [fbE_101]
  simp (disch := omega) only [hg.1, fl_KM, fl_RM, fl_lit, fl_nadd, fl_nmul, fl_ndiv, fl_nsub, fl_msub, fl_nle, fl_nlt, fl_neq, fl_nclamp, fl_nin, fl_ltT, fl_ltF, fl_leT, fl_leF, fl_eqT, fl_eqF, decide_true, decide_false, Bool.true_and, Bool.and_true, Bool.false_and, Bool.and_false, if_true, if_false, Bool.false_eq_true, Option.isSome_some, Option.getD_some, not_true_eq_false, not_false_eq_true, Option.toList_some, Option.toList_none, List.cons_append, List.nil_append]
theorem fo_pin_a {g : Nat → Nat} {s : Int64} (hg : fl_g k0 h) (w : fl_wf g) (d : fl_rn h 27 g s) (p : Int32) : fl_cl fl_C 103 [.ref 0, .int p, .ref 284] h = if fl_in p (g 2) = true then some (some (some (.int (Int32.ofNat 0))), fl_wl h 284 (fl_up (fl_l h 284) 0 (Int32.toInt64 (Int32.ofNat (g (52 + p.toNatClampNeg)))))) else some (some (some (.int (Int32.ofNat 1))), fl_th h) := by
  have O := fl_o27 (k0 := k0)
  have w2 : g 2 ≤ 20 := w.1.2.2.2.2.1
  have o27 : fl_KK k0 27 = (1, 7) ∧ fl_RR 27 0 = some (27 + 1) := ⟨O.1.1, O.1.2.1⟩
  have o28 : fl_KK k0 (27 + 1) = (1, 4) ∧ fl_RR (27 + 1) 9 = some (27 + 1 + 9) := ⟨O.2.1.1.1, O.2.1.1.2.2.2.2.2.1⟩
  have o37 : fl_KK k0 (27 + 1 + 9) = (1, 1) := O.2.1.2.2.2.2.2.1.1
  have i2 := d.1.1.2.2.1
  by_cases c0 : fl_in p (g 2) = true
  · rw [if_pos c0]
    obtain ⟨k, hk, rfl⟩ := fl_in_ex c0
    rw [fl_nclamp (show k < 2147483648 by omega)]
    have ei := fc_int O.2.1.2.2.2.2.2.1 hg (show k < 20 by omega)
    rw [d.1.2.2.2.2.2.1 k hk, fl_o32] at ei
    clear w d
    rw [fbE_103, fbE_102]
    simp (disch := omega) only [fl_k_wl, fl_r_wl, fl_i_wl, fl_l_wl, fl_1_wl, fl_k_wi, fl_r_wi, fl_l_wi, fl_1_wi, fl_i_wi, fl_k_si, fl_r_si, fl_l_si, fl_k_sl, fl_r_sl, fl_i_sl, fl_up_self, fl_up_ne, fl_si_wi, fl_sl_wl, fl_wi_wi, fl_wl_wl, hg.1, hg.2, fl_KF, fl_RF, fl_KO, o27, o28, o37, fl_lit, fl_nadd, fl_nmul, fl_ndiv, fl_nsub, fl_msub, fl_nle, fl_nlt, fl_neq, fl_nclamp, fl_nin, fl_ltT, fl_ltF, fl_leT, fl_leF, fl_eqT, fl_eqF, decide_true, decide_false, Bool.true_and, Bool.and_true, Bool.false_and, Bool.and_false, if_true, if_false, Bool.false_eq_true, Option.isSome_some, Option.getD_some, not_true_eq_false, not_false_eq_true, Option.toList_some, Option.toList_none, List.cons_append, List.nil_append, i2, ei, fbP_102_40, fbP_103_7n]
  · rw [if_neg c0]
    have e102 : fl_cl fl_C 102 [.ref 0, .int p] h = some (none, fl_th h) := by
      rw [fbE_102]
      by_cases l : p < 0
      · rw [fl_ifd l, fbC_102_18]
      · have l2 : ¬ p < Int32.ofNat (g 2) := fun z => c0 (fl_in_iff.mpr ⟨l, by
          have h3 := fl_i32_nat l
          rw [Int32.lt_iff_toInt_lt, fl_toI (by omega)] at z
          omega⟩)
        rw [fl_ifn l]
        clear w d
        simp (disch := omega) only [hg.1, hg.2, fl_KF, fl_RF, o27, o28, fl_lit, fl_nadd, fl_nmul, fl_ndiv, fl_nsub, fl_msub, fl_nle, fl_nlt, fl_neq, fl_nclamp, fl_nin, fl_ltT, fl_ltF, fl_leT, fl_leF, fl_eqT, fl_eqF, decide_true, decide_false, Bool.true_and, Bool.and_true, Bool.false_and, Bool.and_false, if_true, if_false, Bool.false_eq_true, Option.isSome_some, Option.getD_some, not_true_eq_false, not_false_eq_true, Option.toList_some, Option.toList_none, List.cons_append, List.nil_append, i2, eq_false l2, fbC_102_18]
    rw [fbE_103]
    simp (disch := omega) only [hg.1, hg.2, fl_KF, fl_lit, fl_nadd, fl_nmul, fl_ndiv, fl_nsub, fl_msub, fl_nle, fl_nlt, fl_neq, fl_nclamp, fl_nin, fl_ltT, fl_ltF, fl_leT, fl_leF, fl_eqT, fl_eqF, decide_true, decide_false, Bool.true_and, Bool.and_true, Bool.false_and, Bool.and_false, if_true, if_false, Bool.false_eq_true, Option.isSome_some, Option.getD_some, not_true_eq_false, not_false_eq_true, Option.toList_some, Option.toList_none, List.cons_append, List.nil_append, e102, fbX_103_7n]
theorem fo_pin_b {g : Nat → Nat} (hg : fl_g k0 h) (m : fl_mm h g) (w : fl_wf g) (p : Int32) : fl_cl fl_C 104 [.ref 259, .int p] h = some (some (some (.int (if fl_in p (g 2) = true then Int32.ofNat (g (52 + p.toNatClampNeg)) else Int32.ofNat 0))), fl_wi h 259 (fl_up (fl_i h 259) 0 (if fl_in p (g 2) = true then Int32.ofNat 0 else Int32.ofNat 1))) := by
  have w2 : g 2 ≤ 20 := w.1.2.2.2.2.1
  have m2 := m 2 (by omega)
  have ew := fl_in64 (n := g 2) (by omega) p
  have e37 := fr_37 (h := h) (Int32.toInt64 p) 0 (Int32.toInt64 (Int32.ofNat (g 2) - Int32.ofNat 1))
  by_cases c0 : fl_in p (g 2) = true
  · rw [if_pos (ew.mpr c0)] at e37
    rw [if_pos c0, if_pos c0]
    obtain ⟨k, hk, rfl⟩ := fl_in_ex c0
    have e37s : fl_cl fl_C 37 [.long (Int32.toInt64 (Int32.ofNat k)), .long 0, .long (Int32.toInt64 (Int32.ofNat (g 2 - 1)))] h = some (some (some (.int (Int32.ofNat 1))), h) := by
      rw [← fl_nsub (show 1 ≤ g 2 by omega)]
      exact e37
    rw [fl_nclamp (show k < 2147483648 by omega)]
    have mk := m (52 + k) (by omega)
    clear w m
    rw [fbE_104]
    simp (disch := omega) only [fl_k_wl, fl_r_wl, fl_i_wl, fl_l_wl, fl_1_wl, fl_k_wi, fl_r_wi, fl_l_wi, fl_1_wi, fl_i_wi, fl_k_si, fl_r_si, fl_l_si, fl_k_sl, fl_r_sl, fl_i_sl, fl_up_self, fl_up_ne, fl_si_wi, fl_sl_wl, fl_wi_wi, fl_wl_wl, hg.1, hg.2, fl_KM, fl_RM, fl_lit, fl_nadd, fl_nmul, fl_ndiv, fl_nsub, fl_msub, fl_nle, fl_nlt, fl_neq, fl_nclamp, fl_nin, fl_ltT, fl_ltF, fl_leT, fl_leF, fl_eqT, fl_eqF, decide_true, decide_false, Bool.true_and, Bool.and_true, Bool.false_and, Bool.and_false, if_true, if_false, Bool.false_eq_true, Option.isSome_some, Option.getD_some, not_true_eq_false, not_false_eq_true, Option.toList_some, Option.toList_none, List.cons_append, List.nil_append, m2, mk, e37s, fr_79, fbC_104_30, fbC_104_50, fbP_104_16, fbP_104_27]
  · rw [if_neg (fun z => c0 (ew.mp z))] at e37
    rw [if_neg c0, if_neg c0, fbE_104]
    clear w m
    by_cases n0 : g 2 = 0
    · rw [n0] at m2 e37
      have e37s : fl_cl fl_C 37 [.long (Int32.toInt64 p), .long 0, .long (Int32.toInt64 (Int32.ofNat 0 - Int32.ofNat 1))] h = some (some (some (.int (Int32.ofNat 0))), h) := e37
      simp (disch := omega) only [fl_k_wl, fl_r_wl, fl_i_wl, fl_l_wl, fl_1_wl, fl_k_wi, fl_r_wi, fl_l_wi, fl_1_wi, fl_i_wi, fl_k_si, fl_r_si, fl_l_si, fl_k_sl, fl_r_sl, fl_i_sl, fl_up_self, fl_up_ne, fl_si_wi, fl_sl_wl, fl_wi_wi, fl_wl_wl, hg.1, hg.2, fl_KM, fl_RM, fl_lit, fl_nadd, fl_nmul, fl_ndiv, fl_nsub, fl_msub, fl_nle, fl_nlt, fl_neq, fl_nclamp, fl_nin, fl_ltT, fl_ltF, fl_leT, fl_leF, fl_eqT, fl_eqF, decide_true, decide_false, Bool.true_and, Bool.and_true, Bool.false_and, Bool.and_false, if_true, if_false, Bool.false_eq_true, Option.isSome_some, Option.getD_some, not_true_eq_false, not_false_eq_true, Option.toList_some, Option.toList_none, List.cons_append, List.nil_append, m2, e37s, fr_79, fbC_104_30, fbC_104_50, fbP_104_16, fbP_104_27]
    · have e37s : fl_cl fl_C 37 [.long (Int32.toInt64 p), .long 0, .long (Int32.toInt64 (Int32.ofNat (g 2 - 1)))] h = some (some (some (.int (Int32.ofNat 0))), h) := by
        rw [← fl_nsub (show 1 ≤ g 2 by omega)]
        exact e37
      simp (disch := omega) only [fl_k_wl, fl_r_wl, fl_i_wl, fl_l_wl, fl_1_wl, fl_k_wi, fl_r_wi, fl_l_wi, fl_1_wi, fl_i_wi, fl_k_si, fl_r_si, fl_l_si, fl_k_sl, fl_r_sl, fl_i_sl, fl_up_self, fl_up_ne, fl_si_wi, fl_sl_wl, fl_wi_wi, fl_wl_wl, hg.1, hg.2, fl_KM, fl_RM, fl_lit, fl_nadd, fl_nmul, fl_ndiv, fl_nsub, fl_msub, fl_nle, fl_nlt, fl_neq, fl_nclamp, fl_nin, fl_ltT, fl_ltF, fl_leT, fl_leF, fl_eqT, fl_eqF, decide_true, decide_false, Bool.true_and, Bool.and_true, Bool.false_and, Bool.and_false, if_true, if_false, Bool.false_eq_true, Option.isSome_some, Option.getD_some, not_true_eq_false, not_false_eq_true, Option.toList_some, Option.toList_none, List.cons_append, List.nil_append, m2, e37s, fr_79, fbC_104_30, fbC_104_50, fbP_104_16, fbP_104_27]
theorem fo_pin (I : fl_Inv k0 c h) (p : Int32) : fl_bothT k0 c 103 104 [.int p] h := by
  obtain ⟨g, g1, g2, b1, b2, s, s1, s2, iG⟩ := I.2.2.2.2.2
  have a := fo_pin_a I.1 iG.1 iG.2.2.2.1 p
  by_cases c0 : fl_in p (g 2) = true
  · rw [if_pos c0] at a
    have I1 := fl_Inv_out I (fl_up (fl_l h 284) 0 (Int32.toInt64 (Int32.ofNat (g (52 + p.toNatClampNeg)))))
    have b := fo_pin_b I1.1 (show fl_mm (fl_wl h 284 _) g from fun j hj => by rw [fl_i_wl]; exact iG.2.1 j hj) iG.1 p
    rw [if_pos c0, if_pos c0] at b
    have I2 := fl_Inv_qt I1 (fl_qt_0 (x := Int32.ofNat 0))
    have t := fr_101 I2.1
    rw [fl_i_wi, if_pos rfl, fl_up_self] at t
    refine ⟨_, _, _, _, c, Or.inl rfl, a, b, t, fun _ => ?_, I2⟩
    rw [fl_l_wi, fl_l_wl, if_pos rfl, fl_up_self]
  · rw [if_neg c0] at a
    have I1 := fl_Inv_th I
    have b := fo_pin_b I1.1 (show fl_mm (fl_th h) g from iG.2.1) iG.1 p
    rw [if_neg c0, if_neg c0] at b
    have I2 := fl_Inv_qt I1 (fl_qt_0 (x := Int32.ofNat 1))
    have t := fr_101 I2.1
    rw [fl_i_wi, if_pos rfl, fl_up_self] at t
    exact ⟨_, _, _, _, _, Or.inr rfl, a, b, t, fun z => absurd z (by decide), I2⟩
end
