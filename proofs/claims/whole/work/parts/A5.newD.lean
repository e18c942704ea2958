/-! THE LAW: what stands when its loop begins -/
section
variable {k0 : Nat → Nat × Nat} {h H : fl_H} {L : Nat} {xs : Nat → Int32}
theorem fn_30m (K : fl_k h 259 = (1, 11)) (R : fl_r h 259 7 = some 262) (M : fl_k h 262 = (2, 630)) : ∃ y, fl_Rn fl_C 30 200 [some (.ref 259)] [] h = some (some none, y) ∧ fl_df (fun q _ => q = 262) h y ∧ fl_i y 262 = fl_up (fl_up (fl_up (fl_up (fl_i h 262) 0 (Int32.ofNat 1)) 1 (Int32.ofNat 1)) 3 (Int32.ofNat 1)) 40 (Int32.ofNat 2) := by
  refine ⟨fl_wi h 262 (fl_up (fl_up (fl_up (fl_up (fl_i h 262) 0 (Int32.ofNat 1)) 1 (Int32.ofNat 1)) 3 (Int32.ofNat 1)) 40 (Int32.ofNat 2)), ?_, fl_df_wi fl_df_rfl (fun j z => absurd rfl z), by rw [fl_i_wi, if_pos rfl]⟩
  rw [fbC_30_200]
  simp (disch := omega) only [fl_k_wl, fl_r_wl, fl_i_wl, fl_l_wl, fl_1_wl, fl_k_wi, fl_r_wi, fl_l_wi, fl_1_wi, fl_i_wi, fl_k_si, fl_r_si, fl_l_si, fl_k_sl, fl_r_sl, fl_i_sl, fl_up_self, fl_up_ne, fl_si_wi, fl_sl_wl, fl_wi_wi, fl_wl_wl, K, R, M, fl_lit, fl_nadd, fl_nmul, fl_ndiv, fl_nsub, fl_msub, fl_nle, fl_nlt, fl_neq, fl_nclamp, fl_nin, fl_ltT, fl_ltF, fl_leT, fl_leF, fl_eqT, fl_eqF, decide_true, decide_false, Bool.true_and, Bool.and_true, Bool.false_and, Bool.and_false, if_true, if_false, Bool.false_eq_true, Option.isSome_some, Option.getD_some, not_true_eq_false, not_false_eq_true, Option.toList_some, Option.toList_none, List.cons_append, List.nil_append, fbC_30_207, fbC_30_214, fbC_30_221, fbC_30_229]
theorem fn_h0k {k : Nat} : fl_k (fl_h0 L xs) k = if k < 1048576 then (0, 0) else if k < 1048583 then (7, k - 1048576) else if k < 1048592 then (0, 0) else if k < 1048599 then (5, fl_slen.getD (k - 1048592) 0) else if k = 1048608 then (6, L) else (0, 0) := rfl
theorem fn_h0i {k j : Nat} : fl_i (fl_h0 L xs) k j = if k = 1048608 then xs j else (fl_sbyt.getD (k - 1048592) []).getD j 0 := rfl
theorem fn_h0r {k j : Nat} : fl_r (fl_h0 L xs) k j = none := rfl
theorem fn_h0l {k j : Nat} : fl_l (fl_h0 L xs) k j = 0 := rfl
theorem fn_h01 : (fl_h0 L xs).1 = (0, 0, 0, true) := rfl
theorem fn_sk0 : fl_sk (fl_k (fl_h0 L xs)) (fl_i (fl_h0 L xs)) := by
  intro i hi
  refine ⟨?_, ?_, ?_⟩
  · rw [fn_h0k, if_neg (by omega), if_pos (by omega), Nat.add_sub_cancel_left]
  · rw [fn_h0k, if_neg (by omega), if_neg (by omega), if_neg (by omega), if_pos (by omega), Nat.add_sub_cancel_left]; rfl
  · funext j
    rw [fn_h0i, if_neg (by omega), Nat.add_sub_cancel_left]; rfl
theorem fn_kx : fl_k (fl_h0 L xs) 1048608 = (6, L) := by
  rw [fn_h0k, if_neg (by omega), if_neg (by omega), if_neg (by omega), if_neg (by omega), if_pos rfl]
theorem fn_ix : fl_i (fl_h0 L xs) 1048608 = xs := by
  funext j
  rw [fn_h0i, if_pos rfl]
/-- the law up to its loop -/
theorem fn_begin (L : Nat) (xs : Nat → Int32) : ∃ Y c, fl_cl fl_C 265 [.ref 1048608] (fl_h0 L xs) = fl_Rn fl_C 265 23 [some (.ref 1048608), some (.ref 0), some (.ref 259), some (.ref 284), some (.int (Int32.ofNat 0))] [] Y ∧ fl_Inv (fl_k (fl_h0 L xs)) c Y ∧ fl_st (fl_k (fl_h0 L xs)) (fl_i (fl_h0 L xs)) Y ∧ c.1 ≤ 285 ∧ c.2.1 ≤ 300 ∧ c.2.2.1 ≤ 200000 := by
  have h1 := fn_h01 (L := L) (xs := xs)
  have hi : ∀ q j, 285 ≤ q → fl_i (fl_h0 L xs) q j = fl_i (fl_h0 L xs) q j := fun _ _ _ => rfl
  have hr : ∀ q j, fl_r (fl_h0 L xs) q j = none := fun _ _ => rfl
  generalize fl_h0 L xs = h0 at *
  obtain ⟨H, s1, e29, c29, b29⟩ := fn_29 (k0 := fl_k h0) h1
  have iH : ∀ q j, q < 259 → fl_i H q j = fl_J q j := fun q j hq => by rw [c29.2.2.2.1 q j, if_pos (by omega)]
  have lH : ∀ q j, q < 259 → fl_l H q j = 0 := fun q j hq => by rw [c29.2.2.2.2 q j, if_pos (by omega)]
  obtain ⟨y1, e29n, d1, rn⟩ := fn_29n (fn_G_of c29 (by omega)) (fun q j a b => by rw [iH q j (by omega)]; exact fn_J0 (by omega) j) (fun q j a b => lH q j (by omega))
  have y11 : y1.1 = (259, 259, s1, true) := by rw [d1.1, c29.1, h1]; simp only [Nat.zero_add]
  obtain ⟨H2, s2, e30, c30, b30⟩ := fn_30 (k0 := fl_k h0) y11
  have k2 : ∀ q, 259 ≤ q → q < 284 → fl_k H2 q = fl_KK (fl_k h0) q := fun q a b => by rw [c30.2.1 q, if_pos (by omega)]
  obtain ⟨y2, e30m, d2, m2⟩ := fn_30m (h := H2) ((k2 259 (by omega) (by omega)).trans rfl) (by rw [c30.2.2.1 259 7, if_pos (by omega)]; rfl) ((k2 262 (by omega) (by omega)).trans rfl)
  have y21 : y2.1 = (284, 284, s1 + s2, true) := by rw [d2.1, c30.1, y11]
  have kF : ∀ q, fl_k (fl_mk y2 (3, 1) 1) q = fl_KK (fl_k h0) q := fun q => by
    rw [fl_k_mk, y21]
    by_cases e : q = 284
    · rw [if_pos e, e]; rfl
    · rw [if_neg e, d2.2.1, c30.2.1 q]
      by_cases e2 : 259 ≤ q ∧ q < 259 + 25
      · rw [if_pos e2]
      · rw [if_neg e2, d1.2.1, c29.2.1 q]
        by_cases e3 : 0 ≤ q ∧ q < 0 + 259
        · rw [if_pos e3]
        · rw [if_neg e3]
          exact (if_neg (by omega)).symm
  have rF : ∀ q j, fl_r (fl_mk y2 (3, 1) 1) q j = fl_RR q j := fun q j => by
    rw [fl_r_mk, y21]
    by_cases e : q = 284
    · rw [if_pos e, e, fn_RR (by omega), show fn_rw 284 = [] from by decide +kernel]; rfl
    · rw [if_neg e, d2.2.2.1, c30.2.2.1 q j]
      by_cases e2 : 259 ≤ q ∧ q < 259 + 25
      · rw [if_pos e2]
      · rw [if_neg e2, d1.2.2.1, c29.2.2.1 q j]
        by_cases e3 : 0 ≤ q ∧ q < 0 + 259
        · rw [if_pos e3]
        · rw [if_neg e3, hr]
          exact (if_neg (by omega)).symm
  have iF : ∀ q j, q < 284 → ¬ (27 ≤ q ∧ q ≤ 65) → q ≠ 262 → fl_i (fl_mk y2 (3, 1) 1) q j = fl_J q j := fun q j a b c => by
    rw [fl_i_mk, y21, if_neg (by omega), (d2.2.2.2 q j c).1, c30.2.2.2.1 q j]
    by_cases e2 : 259 ≤ q ∧ q < 259 + 25
    · rw [if_pos e2]
    · rw [if_neg e2, (d1.2.2.2 q j b).1]
      exact iH q j (by omega)
  have lF : ∀ q j, q < 284 → ¬ (27 ≤ q ∧ q ≤ 65) → q ≠ 262 → fl_l (fl_mk y2 (3, 1) 1) q j = 0 := fun q j a b c => by
    rw [fl_l_mk, y21, if_neg (by omega), (d2.2.2.2 q j c).2, c30.2.2.2.2 q j]
    by_cases e2 : 259 ≤ q ∧ q < 259 + 25
    · rw [if_pos e2]
    · rw [if_neg e2, (d1.2.2.2 q j b).2]
      exact lH q j (by omega)
  have rnF : fl_rn (fl_mk y2 (3, 1) 1) 27 fn_gg 0 := fl_rn_fr rn (fun q a b => by
    have e2 : ¬ (259 ≤ q ∧ q < 259 + 25) := by omega
    constructor
    · funext j
      rw [fl_i_mk, y21, if_neg (by omega), (d2.2.2.2 q j (by omega)).1, c30.2.2.2.1 q j, if_neg e2]
    · funext j
      rw [fl_l_mk, y21, if_neg (by omega), (d2.2.2.2 q j (by omega)).2, c30.2.2.2.2 q j, if_neg e2])
  have mF : fl_mm (fl_mk y2 (3, 1) 1) fn_gg := fun j hj => by
    rw [fl_i_mk, y21, if_neg (by omega), m2]
    unfold fl_up fn_gg
    by_cases z40 : j = 40
    · rw [if_pos z40, if_neg (by omega), if_pos z40]
    · rw [if_neg z40]
      by_cases z3 : j = 3
      · rw [if_pos z3, if_pos (by omega)]
      · rw [if_neg z3]
        by_cases z1 : j = 1
        · rw [if_pos z1, if_pos (by omega)]
        · rw [if_neg z1]
          by_cases z0 : j = 0
          · rw [if_pos z0, if_pos (by omega)]
          · rw [if_neg z0, if_neg (by omega), if_neg z40, c30.2.2.2.1 262 j, if_pos (by omega)]
            exact fn_J0 (by omega) j
  have sF : fl_st (fl_k h0) (fl_i h0) (fl_mk y2 (3, 1) 1) := fun q hq _ => by
    funext j
    rw [fl_i_mk, y21, if_neg (by omega), (d2.2.2.2 q j (by omega)).1, c30.2.2.2.1 q j, if_neg (by omega), (d1.2.2.2 q j (by omega)).1, c29.2.2.2.1 q j, if_neg (by omega)]
  have F1 : (fl_mk y2 (3, 1) 1).1 = (285, 285, s1 + s2 + 1, true) := by rw [fl_1_mk, y21]
  have zJ : ∀ q, fn_q q → q < 284 → ¬ (27 ≤ q ∧ q ≤ 65) → q ≠ 262 → ∀ j, fl_i (fl_mk y2 (3, 1) 1) q j = Int32.ofNat 0 := fun q a b c d j => by
    rw [iF q j b c d]; exact fn_J0 a j
  have e : fl_cl fl_C 265 [.ref 1048608] h0 = fl_Rn fl_C 265 23 [some (.ref 1048608), some (.ref 0), some (.ref 259), some (.ref 284), some (.int (Int32.ofNat 0))] [] (fl_mk y2 (3, 1) 1) := by
    clear kF rF iF lF rnF mF sF zJ rn d1 d2 m2 c29 c30 iH lH k2 hi hr
    rw [fbE_265]
    simp (disch := omega) only [h1, fl_lit, fl_nadd, fl_nmul, fl_ndiv, fl_nsub, fl_msub, fl_nle, fl_nlt, fl_neq, fl_nclamp, fl_nin, fl_ltT, fl_ltF, fl_leT, fl_leF, fl_eqT, fl_eqF, decide_true, decide_false, Bool.true_and, Bool.and_true, Bool.false_and, Bool.and_false, if_true, if_false, Bool.false_eq_true, Option.isSome_some, Option.getD_some, not_true_eq_false, not_false_eq_true, Option.toList_some, Option.toList_none, List.cons_append, List.nil_append, e29, e29n, fbP_265_7, y11, e30, e30m, fbP_265_15, y21]
  generalize fl_mk y2 (3, 1) 1 = Y at *
  refine ⟨Y, Y.1, e, ⟨⟨funext kF, funext fun q => funext (rF q)⟩, rfl, ⟨0, fun _ => 0, by omega, zJ 259 (by omega) (by omega) (by omega) (by omega) 4, (iF 1 1 (by omega) (by omega) (by omega)).trans rfl, (iF 1 2 (by omega) (by omega) (by omega)).trans rfl, fun j hj => absurd hj (Nat.not_lt_zero j)⟩, ⟨0, fun _ => 0, by omega, zJ 259 (by omega) (by omega) (by omega) (by omega) 1, (iF 4 1 (by omega) (by omega) (by omega)).trans rfl, (iF 4 2 (by omega) (by omega) (by omega)).trans rfl, fun j hj => absurd hj (Nat.not_lt_zero j)⟩, ⟨0, fun _ => 0, fun _ => 0, by omega, zJ 259 (by omega) (by omega) (by omega) (by omega) 11, (iF 21 1 (by omega) (by omega) (by omega)).trans rfl, (iF 21 2 (by omega) (by omega) (by omega)).trans rfl, (iF 24 1 (by omega) (by omega) (by omega)).trans rfl, (iF 24 2 (by omega) (by omega) (by omega)).trans rfl, fun j hj => absurd hj (Nat.not_lt_zero j)⟩, fn_gg, fn_gg, fn_gg, false, false, 0, 0, 0, fn_gg_wf, mF, lF 263 0 (by omega) (by omega) (by omega), rnF, ⟨zJ 0 (by omega) (by omega) (by omega) (by omega) 6, zJ 283 (by omega) (by omega) (by omega) (by omega) 0, fun z => by cases z⟩, ⟨zJ 0 (by omega) (by omega) (by omega) (by omega) 7, zJ 283 (by omega) (by omega) (by omega) (by omega) 1, fun z => by cases z⟩⟩, sF, ?_, ?_, ?_⟩
  all_goals rw [F1]
  · exact Nat.le_refl 285
  · show 285 ≤ 300; omega
  · show s1 + s2 + 1 ≤ 200000; omega
/-- THE LAW'S CODE ANSWERS 1 on every script of at most 1536 ints, and keeps its room -/
theorem fn_whole (L : Nat) (xs : Nat → Int32) (hL : L ≤ 1536) : ∃ n r, fl_ex fl_C n 265 0 (fl_lb fl_C 265 0 (fl_args [.ref 1048608])) [] (fl_h0 L xs) = some r ∧ r.1 = some (some (.int 1)) ∧ r.2.1.2.1 ≤ 601024 ∧ r.2.1.2.2.1 ≤ 7293034 := by
  obtain ⟨Y, c, e, I, st, c1, c2, c3⟩ := fn_begin L xs
  obtain ⟨h', c', e', I', a, b⟩ := fw_loop fn_sk0 fn_kx fn_ix (show L < 9000 by omega) 512 0 Y c I st c1 (by omega) (Nat.zero_le L)
  have E : fl_cl fl_C 265 [.ref 1048608] (fl_h0 L xs) = some (some (some (.int (Int32.ofNat 1))), h') := e.trans e'
  obtain ⟨n, hn⟩ := (fl_Rn_iff fl_C).mp E
  refine ⟨n, _, hn, rfl, ?_, ?_⟩
  · show h'.1.2.1 ≤ 601024
    rw [I'.2.1]; omega
  · show h'.1.2.2.1 ≤ 7293034
    rw [I'.2.1]; omega
end
