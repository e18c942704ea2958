/-! again -/
section
variable {k0 : Nat → Nat × Nat} {h h' : fl_H} {c : Nat × Nat × Nat × Bool}
def fl_agb (h : fl_H) (k : Nat) : fl_H := fl_wl (fl_wi (fl_wi h 259 (fl_up (fl_i h 259) 0 (Int32.ofNat 0))) 262 (fl_cpw (fl_i h 262) (1 + k) 0 126)) 263 (fl_up (fl_l h 263) 0 (fl_l h 263 (1 + k)))
theorem fo_again_a0 (hg : fl_g k0 h) {p : Int32} (hn : (p = Int32.ofNat 0 → fl_i h 0 6 = Int32.ofNat 0) ∧ (p = Int32.ofNat 1 → fl_i h 0 7 = Int32.ofNat 0)) : fl_cl fl_C 254 [.ref 0, .int p] h = some (some (some (.int (Int32.ofNat 0))), h) := by
  rw [fbE_254]
  by_cases y0 : p = Int32.ofNat 0
  · have z := hn.1 y0
    subst y0
    clear hn
    simp (disch := omega) only [hg.1, fl_KF, fl_lit, fl_nadd, fl_nmul, fl_ndiv, fl_nsub, fl_msub, fl_nle, fl_nlt, fl_neq, fl_nclamp, fl_nin, fl_ltT, fl_ltF, fl_leT, fl_leF, fl_eqT, fl_eqF, decide_true, decide_false, Bool.true_and, Bool.and_true, Bool.false_and, Bool.and_false, if_true, if_false, Bool.false_eq_true, Option.isSome_some, Option.getD_some, not_true_eq_false, not_false_eq_true, Option.toList_some, Option.toList_none, List.cons_append, List.nil_append, z, fbC_254_24, fbC_254_49]
  · by_cases y1 : p = Int32.ofNat 1
    · have z := hn.2 y1
      subst y1
      clear hn y0
      simp (disch := omega) only [hg.1, fl_KF, fl_lit, fl_nadd, fl_nmul, fl_ndiv, fl_nsub, fl_msub, fl_nle, fl_nlt, fl_neq, fl_nclamp, fl_nin, fl_ltT, fl_ltF, fl_leT, fl_leF, fl_eqT, fl_eqF, decide_true, decide_false, Bool.true_and, Bool.and_true, Bool.false_and, Bool.and_false, if_true, if_false, Bool.false_eq_true, Option.isSome_some, Option.getD_some, not_true_eq_false, not_false_eq_true, Option.toList_some, Option.toList_none, List.cons_append, List.nil_append, z, fbC_254_24, fbC_254_49]
    · simp (disch := omega) only [fl_lit, fl_nadd, fl_nmul, fl_ndiv, fl_nsub, fl_msub, fl_nle, fl_nlt, fl_neq, fl_nclamp, fl_nin, fl_ltT, fl_ltF, fl_leT, fl_leF, fl_eqT, fl_eqF, decide_true, decide_false, Bool.true_and, Bool.and_true, Bool.false_and, Bool.and_false, if_true, if_false, Bool.false_eq_true, Option.isSome_some, Option.getD_some, not_true_eq_false, not_false_eq_true, Option.toList_some, Option.toList_none, List.cons_append, List.nil_append, y0, y1, fbC_254_24, fbC_254_49]
theorem fo_again_a1 {g : Nat → Nat} {s : Int64} (hg : fl_g k0 h) (w : fl_wf g) {k : Nat} (hk : k < 2) (z : fl_i h 0 (6 + k) = Int32.ofNat 1) (d : fl_rn h (66 + 39 * k) g s) : fl_cl fl_C 254 [.ref 0, .int (Int32.ofNat k)] h = some (some (some (.int (Int32.ofNat 1))), fl_cpR h 27 (66 + 39 * k)) := by
  have w7 : g 77 ≤ 1 := w.1.2.2.2.2.2.2.2.2
  have z4 := d.2.1.2
  have o := (fl_o27 (k0 := k0)).1.1
  rcases (show k = 0 ∨ k = 1 by omega) with e | e <;> subst e
  · have e := fc_149 (a := 27) (b := 66) w7 hg fl_o27 fl_o66 (by omega) z4
    rw [show 6 + 0 = 6 from rfl] at z
    rw [show 66 + 39 * 0 = 66 from rfl]
    clear d w
    generalize fl_cpR h 27 66 = H at *
    rw [fbE_254]
    simp (disch := omega) only [hg.1, hg.2, fl_KF, fl_RF, o, fl_lit, fl_nadd, fl_nmul, fl_ndiv, fl_nsub, fl_msub, fl_nle, fl_nlt, fl_neq, fl_nclamp, fl_nin, fl_ltT, fl_ltF, fl_leT, fl_leF, fl_eqT, fl_eqF, decide_true, decide_false, Bool.true_and, Bool.and_true, Bool.false_and, Bool.and_false, if_true, if_false, Bool.false_eq_true, Option.isSome_some, Option.getD_some, not_true_eq_false, not_false_eq_true, Option.toList_some, Option.toList_none, List.cons_append, List.nil_append, z, e, fbP_254_22]
  · have e := fc_149 (a := 27) (b := 105) w7 hg fl_o27 fl_o105 (by omega) z4
    rw [show 6 + 1 = 7 from rfl] at z
    rw [show 66 + 39 * 1 = 105 from rfl]
    clear d w
    generalize fl_cpR h 27 105 = H at *
    rw [fbE_254]
    simp (disch := omega) only [hg.1, hg.2, fl_KF, fl_RF, o, fl_lit, fl_nadd, fl_nmul, fl_ndiv, fl_nsub, fl_msub, fl_nle, fl_nlt, fl_neq, fl_nclamp, fl_nin, fl_ltT, fl_ltF, fl_leT, fl_leF, fl_eqT, fl_eqF, decide_true, decide_false, Bool.true_and, Bool.and_true, Bool.false_and, Bool.and_false, if_true, if_false, Bool.false_eq_true, Option.isSome_some, Option.getD_some, not_true_eq_false, not_false_eq_true, Option.toList_some, Option.toList_none, List.cons_append, List.nil_append, fbC_254_24, z, e, fbP_254_47]
theorem fo_again_b0 (hg : fl_g k0 h) {p : Int32} (hn : ∀ k, k < 2 → p = Int32.ofNat k → fl_i h 283 k = Int32.ofNat 0) : fl_cl fl_C 255 [.ref 259, .int p] h = some (some (some (.int (Int32.ofNat 0))), fl_wi h 259 (fl_up (fl_i h 259) 0 (Int32.ofNat 0))) := by
  have ew : (0 ≤ Int32.toInt64 p ∧ Int32.toInt64 p ≤ 1) ↔ fl_in p 2 = true := fl_in64n (n := 1) (by omega) p
  have e37 := fr_37 (h := fl_wi h 259 (fl_up (fl_i h 259) 0 (Int32.ofNat 0))) (Int32.toInt64 p) 0 1
  by_cases c0 : fl_in p 2 = true
  · rw [if_pos (ew.mpr c0)] at e37
    obtain ⟨k, hk, rfl⟩ := fl_in_ex c0
    have z := hn k hk rfl
    clear hn
    rw [fbE_255]
    simp (disch := omega) only [fl_k_wl, fl_r_wl, fl_i_wl, fl_l_wl, fl_1_wl, fl_k_wi, fl_r_wi, fl_l_wi, fl_1_wi, fl_i_wi, fl_k_si, fl_r_si, fl_l_si, fl_k_sl, fl_r_sl, fl_i_sl, fl_up_self, fl_up_ne, fl_si_wi, fl_sl_wl, fl_wi_wi, fl_wl_wl, hg.1, hg.2, fl_KM, fl_RM, fl_lit, fl_nadd, fl_nmul, fl_ndiv, fl_nsub, fl_msub, fl_nle, fl_nlt, fl_neq, fl_nclamp, fl_nin, fl_ltT, fl_ltF, fl_leT, fl_leF, fl_eqT, fl_eqF, decide_true, decide_false, Bool.true_and, Bool.and_true, Bool.false_and, Bool.and_false, if_true, if_false, Bool.false_eq_true, Option.isSome_some, Option.getD_some, not_true_eq_false, not_false_eq_true, Option.toList_some, Option.toList_none, List.cons_append, List.nil_append, fbC_255_5, e37, fbP_255_12, z, fbC_255_21, fbC_255_24]
  · rw [if_neg (fun z => c0 (ew.mp z))] at e37
    rw [fbE_255]
    simp (disch := omega) only [fl_k_wl, fl_r_wl, fl_i_wl, fl_l_wl, fl_1_wl, fl_k_wi, fl_r_wi, fl_l_wi, fl_1_wi, fl_i_wi, fl_k_si, fl_r_si, fl_l_si, fl_k_sl, fl_r_sl, fl_i_sl, fl_up_self, fl_up_ne, fl_si_wi, fl_sl_wl, fl_wi_wi, fl_wl_wl, hg.1, hg.2, fl_KM, fl_RM, fl_lit, fl_nadd, fl_nmul, fl_ndiv, fl_nsub, fl_msub, fl_nle, fl_nlt, fl_neq, fl_nclamp, fl_nin, fl_ltT, fl_ltF, fl_leT, fl_leF, fl_eqT, fl_eqF, decide_true, decide_false, Bool.true_and, Bool.and_true, Bool.false_and, Bool.and_false, if_true, if_false, Bool.false_eq_true, Option.isSome_some, Option.getD_some, not_true_eq_false, not_false_eq_true, Option.toList_some, Option.toList_none, List.cons_append, List.nil_append, fbC_255_5, e37, fbP_255_12, fbC_255_24]
theorem fo_again_b1 (hg : fl_g k0 h) {k : Nat} (hk : k < 2) (z : fl_i h 283 k = Int32.ofNat 1) : fl_cl fl_C 255 [.ref 259, .int (Int32.ofNat k)] h = some (some (some (.int (Int32.ofNat 1))), fl_agb h k) := by
  have ew : (0 ≤ Int32.toInt64 (Int32.ofNat k) ∧ Int32.toInt64 (Int32.ofNat k) ≤ 1) ↔ fl_in (Int32.ofNat k) 2 = true := fl_in64n (n := 1) (by omega) (Int32.ofNat k)
  have e37 := fr_37 (h := fl_wi h 259 (fl_up (fl_i h 259) 0 (Int32.ofNat 0))) (Int32.toInt64 (Int32.ofNat k)) 0 1
  rw [if_pos (ew.mpr (by rw [fl_nin (by omega)]; exact decide_eq_true hk))] at e37
  have e87 := fr_87 (h := fl_wi h 259 (fl_up (fl_i h 259) 0 (Int32.ofNat 0))) ⟨by rw [fl_k_wi]; exact hg.1, by rw [fl_r_wi]; exact hg.2⟩ (a := 1 + k) (b := 0) (by omega) (by omega) (by omega)
  rw [fl_i_wi, if_neg (by omega)] at e87
  unfold fl_agb
  rw [fbE_255]
  simp (disch := omega) only [fl_k_wl, fl_r_wl, fl_i_wl, fl_l_wl, fl_1_wl, fl_k_wi, fl_r_wi, fl_l_wi, fl_1_wi, fl_i_wi, fl_k_si, fl_r_si, fl_l_si, fl_k_sl, fl_r_sl, fl_i_sl, fl_up_self, fl_up_ne, fl_si_wi, fl_sl_wl, fl_wi_wi, fl_wl_wl, hg.1, hg.2, fl_KM, fl_RM, fl_lit, fl_nadd, fl_nmul, fl_ndiv, fl_nsub, fl_msub, fl_nle, fl_nlt, fl_neq, fl_nclamp, fl_nin, fl_ltT, fl_ltF, fl_leT, fl_leF, fl_eqT, fl_eqF, decide_true, decide_false, Bool.true_and, Bool.and_true, Bool.false_and, Bool.and_false, if_true, if_false, Bool.false_eq_true, Option.isSome_some, Option.getD_some, not_true_eq_false, not_false_eq_true, Option.toList_some, Option.toList_none, List.cons_append, List.nil_append, fbC_255_5, e37, fbP_255_12, z, fbC_255_21, e87, fbP_255_37, fbC_255_49, fbC_255_50, fbC_255_51]
theorem fl_agb_1 {k : Nat} : (fl_agb h k).1 = h.1 := by unfold fl_agb; rw [fl_1_wl, fl_1_wi, fl_1_wi]
theorem fl_agb_g {k : Nat} (hg : fl_g k0 h) : fl_g k0 (fl_agb h k) := ⟨by unfold fl_agb; rw [fl_k_wl, fl_k_wi, fl_k_wi]; exact hg.1, by unfold fl_agb; rw [fl_r_wl, fl_r_wi, fl_r_wi]; exact hg.2⟩
theorem fl_agb_i {k q : Nat} (h0 : q ≠ 259) (h2 : q ≠ 262) : fl_i (fl_agb h k) q = fl_i h q := by unfold fl_agb; rw [fl_i_wl, fl_i_wi, if_neg h2, fl_i_wi, if_neg h0]
theorem fl_agb_259 {k j : Nat} (hj : j ≠ 0) : fl_i (fl_agb h k) 259 j = fl_i h 259 j := by unfold fl_agb; rw [fl_i_wl, fl_i_wi, if_neg (by omega), fl_i_wi, if_pos rfl, fl_up_ne hj]
theorem fl_agb_262 {k : Nat} : fl_i (fl_agb h k) 262 = fl_cpw (fl_i h 262) (1 + k) 0 126 := by unfold fl_agb; rw [fl_i_wl, fl_i_wi, if_pos rfl]
theorem fl_agb_l {k q : Nat} (hq : q ≠ 263) : fl_l (fl_agb h k) q = fl_l h q := by unfold fl_agb; rw [fl_l_wl, if_neg hq, fl_l_wi, fl_l_wi]
theorem fl_agb_263 {k : Nat} : fl_l (fl_agb h k) 263 = fl_up (fl_l h 263) 0 (fl_l h 263 (1 + k)) := by unfold fl_agb; rw [fl_l_wl, if_pos rfl]
theorem fl_Inv_ag (I : fl_Inv k0 c h) {k : Nat} (hk : k < 2) {ga : Nat → Nat} {sa : Int64} (wa : fl_wf ga) (ma : ∀ j, j < 126 → fl_i h 262 ((1 + k) * 126 + j) = Int32.ofNat (ga j)) (la : fl_l h 263 (1 + k) = sa) (da : fl_rn h (66 + 39 * k) ga sa) : fl_Inv k0 c (fl_agb (fl_cpR h 27 (66 + 39 * k)) k) := by
  obtain ⟨hg, hc, ⟨tn, tx, iT⟩, ⟨rn, rw0, iO⟩, ⟨cn, ck, cm, iC⟩, g, g1, g2, b1, b2, s, s1, s2, iG⟩ := I
  have rg := fl_cpR_rg (h := h) (a := 27) (b := 66 + 39 * k)
  have ei : ∀ q, q ≠ 259 → q ≠ 262 → (q < 27 ∨ 27 + 38 < q) → fl_i (fl_agb (fl_cpR h 27 (66 + 39 * k)) k) q = fl_i h q := fun q h1 h2 h3 => by
    rw [fl_agb_i h1 h2]; exact (rg.2.2.2 q h3).1
  have el : ∀ q, q ≠ 263 → (q < 27 ∨ 27 + 38 < q) → fl_l (fl_agb (fl_cpR h 27 (66 + 39 * k)) k) q = fl_l h q := fun q h1 h2 => by
    rw [fl_agb_l h1]; exact (rg.2.2.2 q h2).2
  have e0 : ∀ j, j ≠ 0 → fl_i (fl_agb (fl_cpR h 27 (66 + 39 * k)) k) 259 j = fl_i h 259 j := fun j hj => by
    rw [fl_agb_259 hj, (rg.2.2.2 259 (by omega)).1]
  have m262 : fl_i (fl_agb (fl_cpR h 27 (66 + 39 * k)) k) 262 = fl_cpw (fl_i h 262) (1 + k) 0 126 := by
    rw [fl_agb_262, (rg.2.2.2 262 (by omega)).1]
  have m263 : fl_l (fl_agb (fl_cpR h 27 (66 + 39 * k)) k) 263 = fl_up (fl_l h 263) 0 (fl_l h 263 (1 + k)) := by
    rw [fl_agb_263, (rg.2.2.2 263 (by omega)).2]
  have R1 : fl_rn (fl_agb (fl_cpR h 27 (66 + 39 * k)) k) 27 ga sa := fl_rn_fr (fl_cpR_rn (a := 27) wa da (by omega)) (fun q h1 h2 => ⟨fl_agb_i (by omega) (by omega), fl_agb_l (by omega)⟩)
  have G1 : fl_g k0 (fl_agb (fl_cpR h 27 (66 + 39 * k)) k) := fl_agb_g ⟨rg.2.1.trans hg.1, rg.2.2.1.trans hg.2⟩
  have C1 : (fl_agb (fl_cpR h 27 (66 + 39 * k)) k).1 = c := by rw [fl_agb_1]; exact rg.1.trans hc
  generalize fl_agb (fl_cpR h 27 (66 + 39 * k)) k = H at *
  have T1 : fl_iT H tn tx := fl_iT_fr iT (e0 4 (by omega)) (ei 261 (by omega) (by omega) (by omega)) (ei 1 (by omega) (by omega) (by omega)) (el 3 (by omega) (by omega))
  have O1 : fl_iO H rn rw0 := fl_iO_fr iO (e0 1 (by omega)) (el 260 (by omega) (by omega)) (ei 4 (by omega) (by omega) (by omega)) (el 6 (by omega) (by omega))
  have K1 : fl_iC H cn ck cm := fl_iC_fr iC (e0 11 (by omega)) (ei 264 (by omega) (by omega) (by omega)) (ei 265 (by omega) (by omega) (by omega)) (ei 21 (by omega) (by omega) (by omega)) (ei 24 (by omega) (by omega) (by omega)) (el 23 (by omega) (by omega)) (el 26 (by omega) (by omega))
  refine ⟨G1, C1, ⟨tn, tx, T1⟩, ⟨rn, rw0, O1⟩, ⟨cn, ck, cm, K1⟩, ga, g1, g2, b1, b2, sa, s1, s2, wa, fun j hj => ?_, ?_, R1, ⟨by rw [ei 0 (by omega) (by omega) (by omega)]; exact iG.2.2.2.2.1.1, by rw [ei 283 (by omega) (by omega) (by omega)]; exact iG.2.2.2.2.1.2.1, fun z => ?_⟩, ⟨by rw [ei 0 (by omega) (by omega) (by omega)]; exact iG.2.2.2.2.2.1, by rw [ei 283 (by omega) (by omega) (by omega)]; exact iG.2.2.2.2.2.2.1, fun z => ?_⟩⟩
  · have := fl_cpw_in (old := fl_i h 262) (a := 1 + k) (b := 0) hj
    rw [Nat.zero_mul, Nat.zero_add] at this
    rw [m262, this]; exact ma j hj
  · rw [m263, fl_up_self, la]
  · have y := iG.2.2.2.2.1.2.2 z
    exact ⟨y.1, fun j hj => by rw [m262, fl_cpw_out (by omega)]; exact y.2.1 j hj, by rw [m263, fl_up_ne (by omega)]; exact y.2.2.1, fl_rn_fr y.2.2.2 (fun q h1 h2 => ⟨ei q (by omega) (by omega) (by omega), el q (by omega) (by omega)⟩)⟩
  · have y := iG.2.2.2.2.2.2.2 z
    exact ⟨y.1, fun j hj => by rw [m262, fl_cpw_out (by omega)]; exact y.2.1 j hj, by rw [m263, fl_up_ne (by omega)]; exact y.2.2.1, fl_rn_fr y.2.2.2 (fun q h1 h2 => ⟨ei q (by omega) (by omega) (by omega), el q (by omega) (by omega)⟩)⟩
theorem fo_again_1 (I : fl_Inv k0 c h) {k : Nat} (hk : k < 2) {ga : Nat → Nat} {sa : Int64} (z : fl_i h 0 (6 + k) = Int32.ofNat 1) (zb : fl_i h 283 k = Int32.ofNat 1) (wa : fl_wf ga) (ma : ∀ j, j < 126 → fl_i h 262 ((1 + k) * 126 + j) = Int32.ofNat (ga j)) (la : fl_l h 263 (1 + k) = sa) (da : fl_rn h (66 + 39 * k) ga sa) : fl_both k0 c 254 255 [.int (Int32.ofNat k)] [.int (Int32.ofNat k)] h := by
  have a := fo_again_a1 I.1 wa hk z da
  have rg := fl_cpR_rg (h := h) (a := 27) (b := 66 + 39 * k)
  have b := fo_again_b1 (h := fl_cpR h 27 (66 + 39 * k)) (k := k) ⟨rg.2.1.trans I.1.1, rg.2.2.1.trans I.1.2⟩ hk (by rw [(rg.2.2.2 283 (by omega)).1]; exact zb)
  exact ⟨_, _, _, a, b, fl_Inv_ag I hk wa ma la da⟩
theorem fo_again (I : fl_Inv k0 c h) (p : Int32) : fl_both k0 c 254 255 [.int p] [.int p] h := by
  obtain ⟨g, g1, g2, b1, b2, s, s1, s2, iG⟩ := I.2.2.2.2.2
  by_cases c1 : p = Int32.ofNat 0 ∧ b1 = true
  · obtain ⟨rfl, rfl⟩ := c1
    have y := iG.2.2.2.2.1.2.2 rfl
    exact fo_again_1 I (k := 0) (by omega) iG.2.2.2.2.1.1 iG.2.2.2.2.1.2.1 y.1 y.2.1 y.2.2.1 y.2.2.2
  · by_cases c2 : p = Int32.ofNat 1 ∧ b2 = true
    · obtain ⟨rfl, rfl⟩ := c2
      have y := iG.2.2.2.2.2.2.2 rfl
      exact fo_again_1 I (k := 1) (by omega) iG.2.2.2.2.2.1 iG.2.2.2.2.2.2.1 y.1 y.2.1 y.2.2.1 y.2.2.2
    · have f1 : p = Int32.ofNat 0 → b1 = false := fun z => by cases b1; rfl; exact absurd ⟨z, rfl⟩ c1
      have f2 : p = Int32.ofNat 1 → b2 = false := fun z => by cases b2; rfl; exact absurd ⟨z, rfl⟩ c2
      have a := fo_again_a0 I.1 (p := p) ⟨fun z => by rw [iG.2.2.2.2.1.1, f1 z]; rfl, fun z => by rw [iG.2.2.2.2.2.1, f2 z]; rfl⟩
      have b := fo_again_b0 I.1 (p := p) (fun k hk z => by
        rcases (show k = 0 ∨ k = 1 by omega) with e | e <;> subst e
        · rw [iG.2.2.2.2.1.2.1, f1 z]; rfl
        · rw [iG.2.2.2.2.2.2.1, f2 z]; rfl)
      exact ⟨_, _, _, a, b, fl_Inv_qt I fl_qt_0⟩
end
