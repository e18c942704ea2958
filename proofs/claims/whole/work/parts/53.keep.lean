/-! keep, again -/
section
variable {k0 : Nat → Nat × Nat} {h h' : fl_H} {c : Nat × Nat × Nat × Bool}
def fl_cpw (old : Nat → Int32) (a b n : Nat) : Nat → Int32 := fun j => if b * 126 ≤ j ∧ j < b * 126 + n then old (a * 126 + (j - b * 126)) else old j
theorem fl_cpw_0 {old : Nat → Int32} {a b : Nat} : fl_cpw old a b 0 = old := by
  funext j
  exact if_neg (by omega)
theorem fl_cpw_out {old : Nat → Int32} {a b n j : Nat} (hj : j < b * 126 ∨ b * 126 + n ≤ j) : fl_cpw old a b n j = old j := if_neg (by omega)
theorem fl_cpw_in {old : Nat → Int32} {a b n j : Nat} (hj : j < n) : fl_cpw old a b n (b * 126 + j) = old (a * 126 + j) := by
  unfold fl_cpw
  rw [if_pos (by omega), show b * 126 + j - b * 126 = j by omega]
theorem fl_cpw_up {old : Nat → Int32} {a b n : Nat} (hab : a ≠ b) (hn : n < 126) : fl_up (fl_cpw old a b n) (b * 126 + n) (fl_cpw old a b n (a * 126 + n)) = fl_cpw old a b (n + 1) := by
  rw [fl_cpw_out (j := a * 126 + n) (by omega)]
  funext j
  by_cases e : j = b * 126 + n
  · subst e
    rw [fl_up_self, fl_cpw_in (by omega)]
  · rw [fl_up_ne e]
    unfold fl_cpw
    by_cases l : b * 126 ≤ j ∧ j < b * 126 + n
    · rw [if_pos l, if_pos (by omega)]
    · rw [if_neg l, if_neg (by omega)]
theorem fr_87 (hg : fl_g k0 h) {a b : Nat} (ha : a < 5) (hb : b < 5) (hab : a ≠ b) : fl_cl fl_C 87 [.ref 259, .int (Int32.ofNat a), .int (Int32.ofNat b), .int (Int32.ofNat 0), .int (Int32.ofNat 126)] h = some (some none, fl_wi h 262 (fl_cpw (fl_i h 262) a b 126)) := by
  have lp := fl_iter (fun k => fl_Rn fl_C 87 3 [some (.ref 259), some (.int (Int32.ofNat a)), some (.int (Int32.ofNat b)), none, some (.int (Int32.ofNat 126)), some (.int (Int32.ofNat k))] [] (fl_wi h 262 (fl_cpw (fl_i h 262) a b k))) 126 (by
    intro k hk
    try dsimp only
    have e := fl_cpw_up (old := fl_i h 262) hab hk
    rw [fbC_87_3]
    simp (disch := omega) only [fl_k_wl, fl_r_wl, fl_i_wl, fl_l_wl, fl_1_wl, fl_k_wi, fl_r_wi, fl_l_wi, fl_1_wi, fl_i_wi, fl_k_si, fl_r_si, fl_l_si, fl_k_sl, fl_r_sl, fl_i_sl, fl_up_self, fl_up_ne, fl_si_wi, fl_sl_wl, fl_wi_wi, fl_wl_wl, hg.1, hg.2, fl_KM, fl_RM, fl_lit, fl_nadd, fl_nmul, fl_ndiv, fl_nsub, fl_msub, fl_nle, fl_nlt, fl_neq, fl_nclamp, fl_nin, fl_ltT, fl_ltF, fl_leT, fl_leF, fl_eqT, fl_eqF, decide_true, decide_false, Bool.true_and, Bool.and_true, Bool.false_and, Bool.and_false, if_true, if_false, Bool.false_eq_true, Option.isSome_some, Option.getD_some, not_true_eq_false, not_false_eq_true, Option.toList_some, Option.toList_none, List.cons_append, List.nil_append, fbC_87_21, fbC_87_32, fbC_87_33, fbC_87_34, e])
  try dsimp only at lp
  rw [fl_cpw_0, fl_wi_self rfl] at lp
  rw [fbE_87, lp, fbC_87_3]
  simp (disch := omega) only [fl_lit, fl_nadd, fl_nmul, fl_ndiv, fl_nsub, fl_msub, fl_nle, fl_nlt, fl_neq, fl_nclamp, fl_nin, fl_ltT, fl_ltF, fl_leT, fl_leF, fl_eqT, fl_eqF, decide_true, decide_false, Bool.true_and, Bool.and_true, Bool.false_and, Bool.and_false, if_true, if_false, Bool.false_eq_true, Option.isSome_some, Option.getD_some, not_true_eq_false, not_false_eq_true, Option.toList_some, Option.toList_none, List.cons_append, List.nil_append]

/-- where the class keeps the k-th -/
def fl_kpa (h : fl_H) (k : Nat) : fl_H := fl_wi (fl_cpR h (66 + 39 * k) 27) 0 (fl_up (fl_i h 0) (6 + k) (Int32.ofNat 1))
def fl_kpb (h : fl_H) (k : Nat) : fl_H := fl_wl (fl_wi (fl_wi (fl_wi h 259 (fl_up (fl_i h 259) 0 (Int32.ofNat 0))) 283 (fl_up (fl_i h 283) k (Int32.ofNat 1))) 262 (fl_cpw (fl_i h 262) 0 (1 + k) 126)) 263 (fl_up (fl_l h 263) (1 + k) (fl_l h 263 0))
theorem fo_keep_a {g : Nat → Nat} {s : Int64} (hg : fl_g k0 h) (w : fl_wf g) (d : fl_rn h 27 g s) (p : Int32) : fl_cl fl_C 252 [.ref 0, .int p] h = some (some (some (.int (if fl_in p 2 = true then Int32.ofNat 1 else Int32.ofNat 0))), if fl_in p 2 = true then fl_kpa h p.toNatClampNeg else h) := by
  have w7 : g 77 ≤ 1 := w.1.2.2.2.2.2.2.2.2
  by_cases c0 : fl_in p 2 = true
  · rw [if_pos c0, if_pos c0]
    obtain ⟨k, hk, rfl⟩ := fl_in_ex c0
    rw [fl_nclamp (show k < 2147483648 by omega)]
    have z4 := d.2.1.2
    rcases (show k = 0 ∨ k = 1 by omega) with e | e <;> subst e
    · have e := fc_149 (a := 66) (b := 27) w7 hg fl_o66 fl_o27 (by omega) z4
      have r := fl_cpR_rg (h := h) (a := 66) (b := 27)
      have o := (fl_o66 (k0 := k0)).1.1
      have hgk := r.2.1
      have hi := (r.2.2.2 0 (by omega)).1
      have ek : fl_kpa h 0 = fl_wi (fl_cpR h 66 27) 0 (fl_up (fl_i h 0) 6 (Int32.ofNat 1)) := rfl
      rw [ek]
      clear r d w ek
      generalize fl_cpR h 66 27 = H at *
      rw [fbE_252]
      simp (disch := omega) only [hg.1, hg.2, fl_KF, fl_RF, o, fl_lit, fl_nadd, fl_nmul, fl_ndiv, fl_nsub, fl_msub, fl_nle, fl_nlt, fl_neq, fl_nclamp, fl_nin, fl_ltT, fl_ltF, fl_leT, fl_leF, fl_eqT, fl_eqF, decide_true, decide_false, Bool.true_and, Bool.and_true, Bool.false_and, Bool.and_false, if_true, if_false, Bool.false_eq_true, Option.isSome_some, Option.getD_some, not_true_eq_false, not_false_eq_true, Option.toList_some, Option.toList_none, List.cons_append, List.nil_append, e, fbP_252_39, hgk, fl_bT, fl_si_wi, hi, fbC_252_44]
    · have e := fc_149 (a := 105) (b := 27) w7 hg fl_o105 fl_o27 (by omega) z4
      have r := fl_cpR_rg (h := h) (a := 105) (b := 27)
      have o := (fl_o105 (k0 := k0)).1.1
      have hgk := r.2.1
      have hi := (r.2.2.2 0 (by omega)).1
      have ek : fl_kpa h 1 = fl_wi (fl_cpR h 105 27) 0 (fl_up (fl_i h 0) 7 (Int32.ofNat 1)) := rfl
      rw [ek]
      clear r d w ek
      generalize fl_cpR h 105 27 = H at *
      rw [fbE_252]
      simp (disch := omega) only [hg.1, hg.2, fl_KF, fl_RF, o, fl_lit, fl_nadd, fl_nmul, fl_ndiv, fl_nsub, fl_msub, fl_nle, fl_nlt, fl_neq, fl_nclamp, fl_nin, fl_ltT, fl_ltF, fl_leT, fl_leF, fl_eqT, fl_eqF, decide_true, decide_false, Bool.true_and, Bool.and_true, Bool.false_and, Bool.and_false, if_true, if_false, Bool.false_eq_true, Option.isSome_some, Option.getD_some, not_true_eq_false, not_false_eq_true, Option.toList_some, Option.toList_none, List.cons_append, List.nil_append, e, fbP_252_57, hgk, fl_bT, fl_si_wi, hi, fbC_252_62]
  · rw [if_neg c0, if_neg c0]
    have y0 := fl_nin_ne c0 (show 0 < 2 by omega) (by omega)
    have y1 := fl_nin_ne c0 (show 1 < 2 by omega) (by omega)
    clear d w
    rw [fbE_252]
    simp (disch := omega) only [fl_lit, fl_nadd, fl_nmul, fl_ndiv, fl_nsub, fl_msub, fl_nle, fl_nlt, fl_neq, fl_nclamp, fl_nin, fl_ltT, fl_ltF, fl_leT, fl_leF, fl_eqT, fl_eqF, decide_true, decide_false, Bool.true_and, Bool.and_true, Bool.false_and, Bool.and_false, if_true, if_false, Bool.false_eq_true, Option.isSome_some, Option.getD_some, not_true_eq_false, not_false_eq_true, Option.toList_some, Option.toList_none, List.cons_append, List.nil_append, y0, y1]
theorem fo_keep_b (hg : fl_g k0 h) (p : Int32) : fl_cl fl_C 253 [.ref 259, .int p] h = some (some (some (.int (if fl_in p 2 = true then Int32.ofNat 1 else Int32.ofNat 0))), if fl_in p 2 = true then fl_kpb h p.toNatClampNeg else fl_wi h 259 (fl_up (fl_i h 259) 0 (Int32.ofNat 0))) := by
  have ew : (0 ≤ Int32.toInt64 p ∧ Int32.toInt64 p ≤ 1) ↔ fl_in p 2 = true := fl_in64n (n := 1) (by omega) p
  have e37 := fr_37 (h := fl_wi h 259 (fl_up (fl_i h 259) 0 (Int32.ofNat 0))) (Int32.toInt64 p) 0 1
  by_cases c0 : fl_in p 2 = true
  · rw [if_pos (ew.mpr c0)] at e37
    rw [if_pos c0, if_pos c0]
    obtain ⟨k, hk, rfl⟩ := fl_in_ex c0
    rw [fl_nclamp (show k < 2147483648 by omega)]
    have e87 := fr_87 (h := fl_wi (fl_wi h 259 (fl_up (fl_i h 259) 0 (Int32.ofNat 0))) 283 (fl_up (fl_i h 283) k (Int32.ofNat 1))) ⟨by rw [fl_k_wi, fl_k_wi]; exact hg.1, by rw [fl_r_wi, fl_r_wi]; exact hg.2⟩ (a := 0) (b := 1 + k) (by omega) (by omega) (by omega)
    rw [fl_i_wi, if_neg (by omega), fl_i_wi, if_neg (by omega)] at e87
    unfold fl_kpb
    rw [fbE_253]
    simp (disch := omega) only [fl_k_wl, fl_r_wl, fl_i_wl, fl_l_wl, fl_1_wl, fl_k_wi, fl_r_wi, fl_l_wi, fl_1_wi, fl_i_wi, fl_k_si, fl_r_si, fl_l_si, fl_k_sl, fl_r_sl, fl_i_sl, fl_up_self, fl_up_ne, fl_si_wi, fl_sl_wl, fl_wi_wi, fl_wl_wl, hg.1, hg.2, fl_KM, fl_RM, fl_lit, fl_nadd, fl_nmul, fl_ndiv, fl_nsub, fl_msub, fl_nle, fl_nlt, fl_neq, fl_nclamp, fl_nin, fl_ltT, fl_ltF, fl_leT, fl_leF, fl_eqT, fl_eqF, decide_true, decide_false, Bool.true_and, Bool.and_true, Bool.false_and, Bool.and_false, if_true, if_false, Bool.false_eq_true, Option.isSome_some, Option.getD_some, not_true_eq_false, not_false_eq_true, Option.toList_some, Option.toList_none, List.cons_append, List.nil_append, fbC_253_5, e37, fbP_253_12, fl_bT, fbC_253_24, e87, fbP_253_35, fbC_253_42, fbC_253_48, fbC_253_49]
  · rw [if_neg (fun z => c0 (ew.mp z))] at e37
    rw [if_neg c0, if_neg c0, fbE_253]
    simp (disch := omega) only [fl_k_wl, fl_r_wl, fl_i_wl, fl_l_wl, fl_1_wl, fl_k_wi, fl_r_wi, fl_l_wi, fl_1_wi, fl_i_wi, fl_k_si, fl_r_si, fl_l_si, fl_k_sl, fl_r_sl, fl_i_sl, fl_up_self, fl_up_ne, fl_si_wi, fl_sl_wl, fl_wi_wi, fl_wl_wl, hg.1, hg.2, fl_KM, fl_RM, fl_lit, fl_nadd, fl_nmul, fl_ndiv, fl_nsub, fl_msub, fl_nle, fl_nlt, fl_neq, fl_nclamp, fl_nin, fl_ltT, fl_ltF, fl_leT, fl_leF, fl_eqT, fl_eqF, decide_true, decide_false, Bool.true_and, Bool.and_true, Bool.false_and, Bool.and_false, if_true, if_false, Bool.false_eq_true, Option.isSome_some, Option.getD_some, not_true_eq_false, not_false_eq_true, Option.toList_some, Option.toList_none, List.cons_append, List.nil_append, fbC_253_5, e37, fbP_253_12]

theorem fl_kpa_1 {k : Nat} : (fl_kpa h k).1 = h.1 := by unfold fl_kpa; rw [fl_1_wi]; exact fl_cpR_rg.1
theorem fl_kpa_g {k : Nat} (hg : fl_g k0 h) : fl_g k0 (fl_kpa h k) := ⟨by unfold fl_kpa; rw [fl_k_wi, fl_cpR_rg.2.1]; exact hg.1, by unfold fl_kpa; rw [fl_r_wi, fl_cpR_rg.2.2.1]; exact hg.2⟩
theorem fl_kpa_i {k q : Nat} (h0 : q ≠ 0) (hq : q < 66 + 39 * k ∨ 66 + 39 * k + 38 < q) : fl_i (fl_kpa h k) q = fl_i h q := by unfold fl_kpa; rw [fl_i_wi, if_neg h0]; exact (fl_cpR_rg.2.2.2 q hq).1
theorem fl_kpa_l {k q : Nat} (hq : q < 66 + 39 * k ∨ 66 + 39 * k + 38 < q) : fl_l (fl_kpa h k) q = fl_l h q := by unfold fl_kpa; rw [fl_l_wi]; exact (fl_cpR_rg.2.2.2 q hq).2
theorem fl_kpa_i0 {k j : Nat} (hj : j ≠ 6 + k) : fl_i (fl_kpa h k) 0 j = fl_i h 0 j := by unfold fl_kpa; rw [fl_i_wi, if_pos rfl, fl_up_ne hj]
theorem fl_kpa_i1 {k : Nat} : fl_i (fl_kpa h k) 0 (6 + k) = Int32.ofNat 1 := by unfold fl_kpa; rw [fl_i_wi, if_pos rfl, fl_up_self]
theorem fl_kpa_rn {k : Nat} {g : Nat → Nat} {s : Int64} (w : fl_wf g) (d : fl_rn h 27 g s) : fl_rn (fl_kpa h k) (66 + 39 * k) g s := by
  refine fl_rn_fr (fl_cpR_rn (a := 66 + 39 * k) w d (by omega)) (fun q h1 h2 => ⟨?_, ?_⟩)
  · unfold fl_kpa; rw [fl_i_wi, if_neg (by omega)]
  · unfold fl_kpa; rw [fl_l_wi]
theorem fl_kpb_1 {k : Nat} : (fl_kpb h k).1 = h.1 := by unfold fl_kpb; rw [fl_1_wl, fl_1_wi, fl_1_wi, fl_1_wi]
theorem fl_kpb_g {k : Nat} (hg : fl_g k0 h) : fl_g k0 (fl_kpb h k) := ⟨by unfold fl_kpb; rw [fl_k_wl, fl_k_wi, fl_k_wi, fl_k_wi]; exact hg.1, by unfold fl_kpb; rw [fl_r_wl, fl_r_wi, fl_r_wi, fl_r_wi]; exact hg.2⟩
theorem fl_kpb_i {k q : Nat} (h0 : q ≠ 259) (h1 : q ≠ 283) (h2 : q ≠ 262) : fl_i (fl_kpb h k) q = fl_i h q := by unfold fl_kpb; rw [fl_i_wl, fl_i_wi, if_neg h2, fl_i_wi, if_neg h1, fl_i_wi, if_neg h0]
theorem fl_kpb_259 {k j : Nat} (hj : j ≠ 0) : fl_i (fl_kpb h k) 259 j = fl_i h 259 j := by unfold fl_kpb; rw [fl_i_wl, fl_i_wi, if_neg (by omega), fl_i_wi, if_neg (by omega), fl_i_wi, if_pos rfl, fl_up_ne hj]
theorem fl_kpb_262 {k : Nat} : fl_i (fl_kpb h k) 262 = fl_cpw (fl_i h 262) 0 (1 + k) 126 := by unfold fl_kpb; rw [fl_i_wl, fl_i_wi, if_pos rfl]
theorem fl_kpb_283 {k : Nat} : fl_i (fl_kpb h k) 283 = fl_up (fl_i h 283) k (Int32.ofNat 1) := by unfold fl_kpb; rw [fl_i_wl, fl_i_wi, if_neg (by omega), fl_i_wi, if_pos rfl]
theorem fl_kpb_l {k q : Nat} (hq : q ≠ 263) : fl_l (fl_kpb h k) q = fl_l h q := by unfold fl_kpb; rw [fl_l_wl, if_neg hq, fl_l_wi, fl_l_wi, fl_l_wi]
theorem fl_kpb_263 {k : Nat} : fl_l (fl_kpb h k) 263 = fl_up (fl_l h 263) (1 + k) (fl_l h 263 0) := by unfold fl_kpb; rw [fl_l_wl, if_pos rfl]
theorem fl_Inv_kp (I : fl_Inv k0 c h) {k : Nat} (hk : k < 2) : fl_Inv k0 c (fl_kpb (fl_kpa h k) k) := by
  obtain ⟨hg, hc, ⟨tn, tx, iT⟩, ⟨rn, rw0, iO⟩, ⟨cn, ck, cm, iC⟩, g, g1, g2, b1, b2, s, s1, s2, iG⟩ := I
  have ei : ∀ q, q ≠ 0 → q ≠ 259 → q ≠ 283 → q ≠ 262 → (q < 66 + 39 * k ∨ 66 + 39 * k + 38 < q) → fl_i (fl_kpb (fl_kpa h k) k) q = fl_i h q := fun q h1 h2 h3 h4 h5 => by
    rw [fl_kpb_i h2 h3 h4, fl_kpa_i h1 h5]
  have el : ∀ q, q ≠ 263 → (q < 66 + 39 * k ∨ 66 + 39 * k + 38 < q) → fl_l (fl_kpb (fl_kpa h k) k) q = fl_l h q := fun q h1 h2 => by
    rw [fl_kpb_l h1, fl_kpa_l h2]
  have e0 : ∀ j, j ≠ 0 → fl_i (fl_kpb (fl_kpa h k) k) 259 j = fl_i h 259 j := fun j hj => by
    rw [fl_kpb_259 hj, fl_kpa_i (by omega) (by omega)]
  have m262 : fl_i (fl_kpb (fl_kpa h k) k) 262 = fl_cpw (fl_i h 262) 0 (1 + k) 126 := by
    rw [fl_kpb_262, fl_kpa_i (by omega) (by omega)]
  have m283 : fl_i (fl_kpb (fl_kpa h k) k) 283 = fl_up (fl_i h 283) k (Int32.ofNat 1) := by
    rw [fl_kpb_283, fl_kpa_i (by omega) (by omega)]
  have m263 : fl_l (fl_kpb (fl_kpa h k) k) 263 = fl_up (fl_l h 263) (1 + k) (fl_l h 263 0) := by
    rw [fl_kpb_263, fl_kpa_l (by omega)]
  have m0 : ∀ j, j ≠ 6 + k → fl_i (fl_kpb (fl_kpa h k) k) 0 j = fl_i h 0 j := fun j hj => by
    rw [fl_kpb_i (by omega) (by omega) (by omega), fl_kpa_i0 hj]
  have m1 : fl_i (fl_kpb (fl_kpa h k) k) 0 (6 + k) = Int32.ofNat 1 := by
    rw [fl_kpb_i (by omega) (by omega) (by omega), fl_kpa_i1]
  have ms : ∀ j, j < 126 → fl_i (fl_kpb (fl_kpa h k) k) 262 ((1 + k) * 126 + j) = Int32.ofNat (g j) := fun j hj => by
    rw [m262, fl_cpw_in hj, Nat.zero_mul, Nat.zero_add]; exact iG.2.1 j hj
  have ss : fl_l (fl_kpb (fl_kpa h k) k) 263 (1 + k) = s := by rw [m263, fl_up_self]; exact iG.2.2.1
  have rk : fl_rn (fl_kpb (fl_kpa h k) k) (66 + 39 * k) g s := fl_rn_fr (fl_kpa_rn iG.1 iG.2.2.2.1) (fun q h1 h2 => ⟨fl_kpb_i (by omega) (by omega) (by omega), fl_kpb_l (by omega)⟩)
  have G1 : fl_g k0 (fl_kpb (fl_kpa h k) k) := fl_kpb_g (fl_kpa_g hg)
  have C1 : (fl_kpb (fl_kpa h k) k).1 = c := by rw [fl_kpb_1, fl_kpa_1]; exact hc
  generalize fl_kpb (fl_kpa h k) k = H at *
  have T1 : fl_iT H tn tx := fl_iT_fr iT (e0 4 (by omega)) (ei 261 (by omega) (by omega) (by omega) (by omega) (by omega)) (ei 1 (by omega) (by omega) (by omega) (by omega) (by omega)) (el 3 (by omega) (by omega))
  have O1 : fl_iO H rn rw0 := fl_iO_fr iO (e0 1 (by omega)) (el 260 (by omega) (by omega)) (ei 4 (by omega) (by omega) (by omega) (by omega) (by omega)) (el 6 (by omega) (by omega))
  have K1 : fl_iC H cn ck cm := fl_iC_fr iC (e0 11 (by omega)) (ei 264 (by omega) (by omega) (by omega) (by omega) (by omega)) (ei 265 (by omega) (by omega) (by omega) (by omega) (by omega)) (ei 21 (by omega) (by omega) (by omega) (by omega) (by omega)) (ei 24 (by omega) (by omega) (by omega) (by omega) (by omega)) (el 23 (by omega) (by omega)) (el 26 (by omega) (by omega))
  have M1 : fl_mm H g := fun j hj => by rw [m262, fl_cpw_out (by omega)]; exact iG.2.1 j hj
  have S1 : fl_l H 263 0 = s := by rw [m263, fl_up_ne (by omega)]; exact iG.2.2.1
  have R1 : fl_rn H 27 g s := fl_rn_fr iG.2.2.2.1 (fun q h1 h2 => ⟨ei q (by omega) (by omega) (by omega) (by omega) (by omega), el q (by omega) (by omega)⟩)
  rcases (show k = 0 ∨ k = 1 by omega) with e | e <;> subst e
  · refine ⟨G1, C1, ⟨tn, tx, T1⟩, ⟨rn, rw0, O1⟩, ⟨cn, ck, cm, K1⟩, g, g, g2, true, b2, s, s, s2, iG.1, M1, S1, R1, ⟨m1, by rw [m283, fl_up_self]; rfl, fun _ => ⟨iG.1, ms, ss, rk⟩⟩, ⟨by rw [m0 7 (by omega)]; exact iG.2.2.2.2.2.1, by rw [m283, fl_up_ne (by omega)]; exact iG.2.2.2.2.2.2.1, fun z => ?_⟩⟩
    have y := iG.2.2.2.2.2.2.2 z
    exact ⟨y.1, fun j hj => by rw [m262, fl_cpw_out (by omega)]; exact y.2.1 j hj, by rw [m263, fl_up_ne (by omega)]; exact y.2.2.1, fl_rn_fr y.2.2.2 (fun q h1 h2 => ⟨ei q (by omega) (by omega) (by omega) (by omega) (by omega), el q (by omega) (by omega)⟩)⟩
  · refine ⟨G1, C1, ⟨tn, tx, T1⟩, ⟨rn, rw0, O1⟩, ⟨cn, ck, cm, K1⟩, g, g1, g, b1, true, s, s1, s, iG.1, M1, S1, R1, ⟨by rw [m0 6 (by omega)]; exact iG.2.2.2.2.1.1, by rw [m283, fl_up_ne (by omega)]; exact iG.2.2.2.2.1.2.1, fun z => ?_⟩, ⟨m1, by rw [m283, fl_up_self]; rfl, fun _ => ⟨iG.1, ms, ss, rk⟩⟩⟩
    have y := iG.2.2.2.2.1.2.2 z
    exact ⟨y.1, fun j hj => by rw [m262, fl_cpw_out (by omega)]; exact y.2.1 j hj, by rw [m263, fl_up_ne (by omega)]; exact y.2.2.1, fl_rn_fr y.2.2.2 (fun q h1 h2 => ⟨ei q (by omega) (by omega) (by omega) (by omega) (by omega), el q (by omega) (by omega)⟩)⟩
theorem fo_keep (I : fl_Inv k0 c h) (p : Int32) : fl_both k0 c 252 253 [.int p] [.int p] h := by
  obtain ⟨g, g1, g2, b1, b2, s, s1, s2, iG⟩ := I.2.2.2.2.2
  have a := fo_keep_a I.1 iG.1 iG.2.2.2.1 p
  by_cases c0 : fl_in p 2 = true
  · rw [if_pos c0, if_pos c0] at a
    have b := fo_keep_b (fl_kpa_g (k := p.toNatClampNeg) I.1) p
    rw [if_pos c0, if_pos c0] at b
    exact ⟨_, _, _, a, b, fl_Inv_kp I (fl_in_iff.mp c0).2⟩
  · rw [if_neg c0, if_neg c0] at a
    have b := fo_keep_b I.1 p
    rw [if_neg c0, if_neg c0] at b
    exact ⟨_, _, _, a, b, fl_Inv_qt I fl_qt_0⟩
end
