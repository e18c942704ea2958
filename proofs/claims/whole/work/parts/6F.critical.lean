/-! critical -/
/-- the values of the latest tick, its pattern -/
def fl_gl (g : Nat → Nat) : Nat → Nat := fl_vl g 64 (fl_ps g) (g 76 - 1)
def fl_pl (g : Nat → Nat) : Nat := fl_ps g (g 76 - 1)
/-- a line turned over -/
def fl_tv (g : Nat → Nat) (k : Nat) : Nat → Nat → Nat := fl_lay g (2 * k + 1 - fl_gl g k) (fl_pl g) (fl_gl g)
def fl_crq (g : Nat → Nat) (o k : Nat) : Bool := decide (fl_gl g o ≠ 2) && (decide (fl_gl g k ≠ 2) && decide (fl_tv g k (g 0) o = 1 - fl_gl g o))
def fl_crs (g : Nat → Nat) (o : Nat) : Int32 := fl_bi (fl_crq g o) (fun i => i) (g 0)
theorem fl_gl_le {g : Nat → Nat} (w : fl_wf g) (hn : 0 < g 76) (k : Nat) : fl_gl g k ≤ 2 := fl_vl_le w (fl_okp_g w) (show g 76 - 1 < g 76 by omega) k
theorem fl_tv_le {g : Nat → Nat} (w : fl_wf g) (hn : 0 < g 76) (k n j : Nat) (h : n ≤ g 0) : fl_tv g k n j ≤ 2 := fl_lay_le (fl_okp_g w (g 76 - 1) (by omega)).2 (fun k _ => fl_gl_le w hn k) n j h
theorem fl_gl_in {g : Nat → Nat} (w : fl_wf g) {j : Nat} (hj : j < g 1) : fl_gl g j = fl_pl g / 4 ^ j % 4 := by
  have w1 := w.1
  unfold fl_gl fl_vl
  rw [fl_lay_st (show j < g 0 by omega), fl_lay, fl_up_self, if_pos hj]
  unfold fl_stk
  rw [if_neg (by omega), if_neg (by omega)]
  rfl
/-- a line's value, a line being turned over -/
theorem fl_tv_s {g : Nat → Nat} (w : fl_wf g) {k j : Nat} (hk : k < g 0) (hj : j < g 0) (h2 : fl_gl g k ≤ 1) : fl_tv g k (j + 1) j = if j = k then 1 - fl_gl g k else if j < g 1 ∨ g (4 + j) = 8 then fl_gl g j else fl_gt g 64 (fl_tv g k j) j := by
  have w1 := w.1
  have pv : ∀ v p, p < 20 → fl_pv g (2 * k + 1 - fl_gl g k) v p = fl_pv g 64 v p := fun v p hp => by
    unfold fl_pv
    rw [if_neg (by omega), if_neg (by omega), if_neg (by omega), if_neg (by omega)]
  have gt : g 1 ≤ j → fl_gt g (2 * k + 1 - fl_gl g k) (fl_tv g k j) j = fl_gt g 64 (fl_tv g k j) j := fun h1 => by
    have wj := w.2.2.1 j h1 hj
    have key : ∀ z, fl_gn g (2 * k + 1 - fl_gl g k) (fl_tv g k j) j z (g (28 + j)) = fl_gn g 64 (fl_tv g k j) j z (g (28 + j)) := fun z => fl_cnt_congr (fun i hi => by rw [pv _ _ (by omega)])
    unfold fl_gt
    rw [key 0, key 1]
  have e : fl_tv g k (j + 1) j = fl_stk (2 * k + 1 - fl_gl g k) j (if j < g 1 then fl_pl g / 4 ^ j % 4 else if g (4 + j) = 8 then fl_gl g j else fl_gt g (2 * k + 1 - fl_gl g k) (fl_tv g k j) j) := by
    unfold fl_tv
    rw [fl_lay, fl_up_self]
  rw [e]
  unfold fl_stk
  by_cases c : j = k
  · subst c
    rw [if_pos rfl]
    by_cases z : fl_gl g j = 0
    · rw [if_neg (by omega), if_pos (by omega), z]
    · rw [if_pos (by omega)]; omega
  · rw [if_neg c, if_neg (by omega), if_neg (by omega)]
    by_cases l : j < g 1
    · rw [if_pos l, if_pos (Or.inl l), fl_gl_in w l]
    · rw [if_neg l]
      by_cases r : g (4 + j) = 8
      · rw [if_pos r, if_pos (Or.inr r)]
      · rw [if_neg r, if_neg (by omega), gt (by omega)]
section
variable {k0 : Nat → Nat × Nat} {h : fl_H} {g : Nat → Nat} {c : Nat × Nat × Nat × Bool} {s : Int64}
theorem fc_61n (hg : fl_g k0 h) (w : fl_wf g) (nt : fl_net h 28 g) {p : Int32} (np : ∀ j, j < g 3 → ¬ Int32.ofNat (g (72 + j)) = p) : fl_cl fl_C 61 [.ref 28, .int p] h = some (some (some (.int (Int32.ofNat 0))), h) := by
  have w3 : g 3 ≤ 4 := w.1.2.2.2.2.2.2.1
  have N := fl_sk28 (k0 := k0)
  have o28 := N.1.1
  have o28r : fl_RR 28 10 = some 39 := N.1.2.2.2.2.2.2
  have o39 := N.2.2.2.2.2.2.1
  have i4 : fl_i h 28 4 = Int32.ofNat (g 3) := nt.1.2.2.2.2
  have lp := fl_iter (fun j => fl_Rn fl_C 61 2 [some (.ref 28), some (.int p), some (.int (Int32.ofNat j))] [] h) (g 3) (fun j hj => by
    have e24 := fc_int N.2.2.2.2.2.2 hg (show j < 4 by omega)
    rw [nt.2.2.2.2.2.2 j hj, fl_o32] at e24
    have nj := eq_false (np j hj)
    clear w nt np
    try dsimp only
    rw [fbC_61_2]
    simp (disch := omega) only [hg.1, hg.2, o28, o28r, o39, fl_lit, fl_nadd, fl_nmul, fl_ndiv, fl_nsub, fl_msub, fl_nle, fl_nlt, fl_neq, fl_nclamp, fl_nin, fl_ltT, fl_ltF, fl_leT, fl_leF, fl_eqT, fl_eqF, decide_true, decide_false, Bool.true_and, Bool.and_true, Bool.false_and, Bool.and_false, if_true, if_false, Bool.false_eq_true, Option.isSome_some, Option.getD_some, not_true_eq_false, not_false_eq_true, Option.toList_some, Option.toList_none, List.cons_append, List.nil_append, i4, e24, fbP_61_18, nj])
  clear w nt np
  rw [fbE_61]
  refine lp.trans ?_
  try dsimp only
  rw [fbC_61_2]
  simp (disch := omega) only [hg.1, o28, fl_lit, fl_nadd, fl_nmul, fl_ndiv, fl_nsub, fl_msub, fl_nle, fl_nlt, fl_neq, fl_nclamp, fl_nin, fl_ltT, fl_ltF, fl_leT, fl_leF, fl_eqT, fl_eqF, decide_true, decide_false, Bool.true_and, Bool.and_true, Bool.false_and, Bool.and_false, if_true, if_false, Bool.false_eq_true, Option.isSome_some, Option.getD_some, not_true_eq_false, not_false_eq_true, Option.toList_some, Option.toList_none, List.cons_append, List.nil_append, i4]
/-- registers hold what they gave -/
theorem fc_189 {o p : Nat} (hg : fl_g k0 h) (w : fl_wf g) (nt : fl_net h 28 g) (so : fl_isS k0 o) (sp : fl_isS k0 p) (sep : o + 8 < p ∨ p + 8 < o) : fl_cl fl_C 189 [.ref o, .ref 28, .ref p] h = some (some none, fl_ww h (o + 6) (o + 8) (fl_hy g (fl_l h (p + 2)) (fl_l h (o + 6)) (g 0)) (fl_hy g (fl_l h (p + 4)) (fl_l h (o + 8)) (g 0))) := by
  have w1 := w.1
  have w0 : g 0 ≤ 12 := w1.2.2.2.1
  have N := fl_sk28 (k0 := k0)
  have o28 := N.1.1
  have i0 : fl_i h 28 0 = Int32.ofNat (g 1) := nt.1.1
  have i1 : fl_i h 28 1 = Int32.ofNat (g 0) := nt.1.2.1
  have lp := fl_iter (fun k => fl_Rn fl_C 189 5 [some (.ref o), some (.ref 28), some (.ref p), some (.int (Int32.ofNat (g 1 + k)))] [] (fl_ww h (o + 6) (o + 8) (fl_hy g (fl_l h (p + 2)) (fl_l h (o + 6)) (g 1 + k)) (fl_hy g (fl_l h (p + 4)) (fl_l h (o + 8)) (g 1 + k)))) (g 0 - g 1) (by
    intro k hk
    try dsimp only
    have hgw : ∀ A B, fl_g k0 (fl_ww h (o + 6) (o + 8) A B) := fun A B => hg
    have c1 : ∀ A B, fl_cl fl_C 105 [.ref (p + 1), .int (Int32.ofNat (g 1 + k))] (fl_ww h (o + 6) (o + 8) A B) = some (some (some (.long (fl_l h (p + 2) (g 1 + k)))), fl_ww h (o + 6) (o + 8) A B) := fun A B => by
      rw [fc_at sp.2.1 (hgw A B) (show g 1 + k < 12 by omega), fl_ww_lo (by omega) (by omega)]
    have c0 : ∀ A B, fl_cl fl_C 105 [.ref (p + 3), .int (Int32.ofNat (g 1 + k))] (fl_ww h (o + 6) (o + 8) A B) = some (some (some (.long (fl_l h (p + 4) (g 1 + k)))), fl_ww h (o + 6) (o + 8) A B) := fun A B => by
      rw [fc_at sp.2.2.1 (hgw A B) (show g 1 + k < 12 by omega), fl_ww_lo (by omega) (by omega)]
    have p1 : ∀ A B v, fl_cl fl_C 20 [.ref (o + 5), .int (Int32.ofNat (g 1 + k)), .long v] (fl_ww h (o + 6) (o + 8) A B) = some (some none, fl_ww h (o + 6) (o + 8) (fl_up A (g 1 + k) v) B) := fun A B v => by
      rw [fc_put so.2.2.2.1 (hgw A B) (show g 1 + k < 12 by omega), fl_ww_la (by omega), fl_ww_a (by omega)]
    have p0 : ∀ A B v, fl_cl fl_C 20 [.ref (o + 7), .int (Int32.ofNat (g 1 + k)), .long v] (fl_ww h (o + 6) (o + 8) A B) = some (some none, fl_ww h (o + 6) (o + 8) A (fl_up B (g 1 + k) v)) := fun A B v => by
      rw [fc_put so.2.2.2.2 (hgw A B) (show g 1 + k < 12 by omega), fl_ww_lb, fl_ww_b]
    have y1 := fl_hy_up (g := g) (A := fl_l h (p + 2)) (old := fl_l h (o + 6)) (k := g 1 + k) (by omega) rfl
    have y0 := fl_hy_up (g := g) (A := fl_l h (p + 4)) (old := fl_l h (o + 8)) (k := g 1 + k) (by omega) rfl
    have lt : g 1 + k < g 0 := by omega
    clear w w1 nt hgw N
    rw [show g 1 + (k + 1) = (g 1 + k) + 1 from rfl]
    generalize g 1 + k = kk at *
    rw [fbC_189_5]
    simp (disch := omega) only [fl_k_ww, fl_r_ww, fl_i_ww, hg.1, hg.2, o28, so.1, so.2.2.2.1, so.2.2.2.2, sp.1, sp.2.1, sp.2.2.1, fl_lit, fl_nadd, fl_nmul, fl_ndiv, fl_nsub, fl_msub, fl_nle, fl_nlt, fl_neq, fl_nclamp, fl_nin, fl_ltT, fl_ltF, fl_leT, fl_leF, fl_eqT, fl_eqF, decide_true, decide_false, Bool.true_and, Bool.and_true, Bool.false_and, Bool.and_false, if_true, if_false, Bool.false_eq_true, Option.isSome_some, Option.getD_some, not_true_eq_false, not_false_eq_true, Option.toList_some, Option.toList_none, List.cons_append, List.nil_append, i1, c1, fbP_189_26, p1, y1, fbP_189_29, c0, fbP_189_42, p0, y0, fbP_189_45])
  try dsimp only at lp
  rw [show g 1 + (g 0 - g 1) = g 0 by omega, Nat.add_zero] at lp
  have e1 : h = fl_ww h (o + 6) (o + 8) (fl_hy g (fl_l h (p + 2)) (fl_l h (o + 6)) (g 1)) (fl_hy g (fl_l h (p + 4)) (fl_l h (o + 8)) (g 1)) := (fl_ww_self fl_hy_0 fl_hy_0 (by omega)).symm
  have lp3 := (congrArg (fun z => fl_Rn fl_C 189 5 [some (.ref o), some (.ref 28), some (.ref p), some (.int (Int32.ofNat (g 1)))] [] z) e1).trans lp
  try dsimp only at lp3
  clear w w1 nt lp e1
  rw [fbE_189]
  simp (disch := omega) only [hg.1, o28, fl_lit, fl_nadd, fl_nmul, fl_ndiv, fl_nsub, fl_msub, fl_nle, fl_nlt, fl_neq, fl_nclamp, fl_nin, fl_ltT, fl_ltF, fl_leT, fl_leF, fl_eqT, fl_eqF, decide_true, decide_false, Bool.true_and, Bool.and_true, Bool.false_and, Bool.and_false, if_true, if_false, Bool.false_eq_true, Option.isSome_some, Option.getD_some, not_true_eq_false, not_false_eq_true, Option.toList_some, Option.toList_none, List.cons_append, List.nil_append, i0]
  rw [lp3, fbC_189_5]
  simp (disch := omega) only [fl_k_ww, fl_i_ww, hg.1, o28, fl_lit, fl_nadd, fl_nmul, fl_ndiv, fl_nsub, fl_msub, fl_nle, fl_nlt, fl_neq, fl_nclamp, fl_nin, fl_ltT, fl_ltF, fl_leT, fl_leF, fl_eqT, fl_eqF, decide_true, decide_false, Bool.true_and, Bool.and_true, Bool.false_and, Bool.and_false, if_true, if_false, Bool.false_eq_true, Option.isSome_some, Option.getD_some, not_true_eq_false, not_false_eq_true, Option.toList_some, Option.toList_none, List.cons_append, List.nil_append, i1]
theorem fo_critical_a0 (hg : fl_g k0 h) (w : fl_wf g) (d : fl_rn h 27 g s) {p : Int32} (np : ∀ j, j < g 3 → ¬ Int32.ofNat (g (72 + j)) = p) : fl_cl fl_C 191 [.ref 0, .int p] h = some (some (some (.int (-Int32.ofNat 1))), h) := by
  have R := fl_o27 (k0 := k0)
  have o27 : fl_KK k0 27 = (1, 7) ∧ fl_RR 27 0 = some 28 := ⟨R.1.1, R.1.2.1⟩
  have o28 := (fl_sk28 (k0 := k0)).1.1
  have e61 := fc_61n hg w d.1 np
  clear w d np R
  rw [fbE_191]
  simp (disch := omega) only [hg.1, hg.2, fl_KF, fl_RF, o27, o28, fl_lit, fl_nadd, fl_nmul, fl_ndiv, fl_nsub, fl_msub, fl_nle, fl_nlt, fl_neq, fl_nclamp, fl_nin, fl_ltT, fl_ltF, fl_leT, fl_leF, fl_eqT, fl_eqF, decide_true, decide_false, Bool.true_and, Bool.and_true, Bool.false_and, Bool.and_false, if_true, if_false, Bool.false_eq_true, Option.isSome_some, Option.getD_some, not_true_eq_false, not_false_eq_true, Option.toList_some, Option.toList_none, List.cons_append, List.nil_append, e61, fbP_191_13]
theorem fo_critical_a1 (hg : fl_g k0 h) (w : fl_wf g) (d : fl_rn h 27 g s) {j : Nat} (hj : j < g 3) (hn : g 76 = 0) : fl_cl fl_C 191 [.ref 0, .int (Int32.ofNat (g (72 + j)))] h = some (some (some (.int (-Int32.ofNat 2))), h) := by
  have R := fl_o27 (k0 := k0)
  have o27 : fl_KK k0 27 = (1, 7) ∧ fl_RR 27 0 = some 28 := ⟨R.1.1, R.1.2.1⟩
  have o28 := (fl_sk28 (k0 := k0)).1.1
  have lk : g (72 + j) < g 0 := w.2.2.2.2.2.1 j hj
  have w0 : g 0 ≤ 12 := w.1.2.2.2.1
  have e61 := fc_61 hg (fl_sk28 (k0 := k0)) w d.1 (k := g (72 + j)) (by omega)
  rw [if_pos (fl_any_iff.mpr ⟨j, hj, decide_eq_true rfl⟩)] at e61
  have i3 := d.2.1.1
  rw [hn] at i3
  clear w d R
  rw [fbE_191]
  simp (disch := omega) only [hg.1, hg.2, fl_KF, fl_RF, o27, o28, fl_lit, fl_nadd, fl_nmul, fl_ndiv, fl_nsub, fl_msub, fl_nle, fl_nlt, fl_neq, fl_nclamp, fl_nin, fl_ltT, fl_ltF, fl_leT, fl_leF, fl_eqT, fl_eqF, decide_true, decide_false, Bool.true_and, Bool.and_true, Bool.false_and, Bool.and_false, if_true, if_false, Bool.false_eq_true, Option.isSome_some, Option.getD_some, not_true_eq_false, not_false_eq_true, Option.toList_some, Option.toList_none, List.cons_append, List.nil_append, e61, fbP_191_13, i3]
theorem fo_critical_a (hg : fl_g k0 h) (w : fl_wf g) (d : fl_rn h 27 g s) (e1 : fl_i h 4 1 = Int32.ofNat 6) {o : Nat} (ho : ∃ j, j < g 3 ∧ g (72 + j) = o) (hn : 0 < g 76) : ∃ y, fl_df fl_SP h y ∧ fl_cl fl_C 191 [.ref 0, .int (Int32.ofNat o)] h = some (some (some (.int (fl_crs g o))), fl_ca1 y (Int32.toInt64 (Int32.ofNat (fl_cnt (fl_hi (fl_crs g o)) 32)))) := by
  have w1 := w.1
  have w0 : g 0 ≤ 12 := w1.2.2.2.1
  have w7 : g 76 ≤ 24 := w1.2.2.2.2.2.2.2.1
  have lo : o < g 0 := by
    obtain ⟨j, hj, rfl⟩ := ho
    exact w.2.2.2.2.2.1 j hj
  have N := fl_sk28 (k0 := k0)
  have R := fl_o27 (k0 := k0)
  have S := fl_o202 (k0 := k0)
  have G : fl_isS k0 42 := R.2.2.1.2.1
  have nt : fl_net h 28 g := d.1
  have e61 := fc_61 hg N w nt (k := o) (by omega)
  rw [if_pos (by obtain ⟨j, hj, e⟩ := ho; exact fl_any_iff.mpr ⟨j, hj, decide_eq_true e⟩)] at e61
  have vg : ∀ k, k < g 0 → fl_l h 44 k = fl_B (fun _ => decide (fl_gl g k = 1)) ∧ fl_l h 46 k = fl_B (fun _ => decide (fl_gl g k = 0)) := fun k hk => (d.2.2.2.2.2.1 hn k hk).1
  have e189 := fc_189 (o := 202) (p := 42) hg w nt S G (by omega)
  have dy : fl_df fl_SP h (fl_ww h (202 + 6) (202 + 8) (fl_hy g (fl_l h (42 + 2)) (fl_l h (202 + 6)) (g 0)) (fl_hy g (fl_l h (42 + 4)) (fl_l h (202 + 8)) (g 0))) := by
    unfold fl_ww
    exact fl_df_wl (fl_df_wl fl_df_rfl (fun j z => by omega)) (fun j z => by omega)
  have gy := fl_df_g hg dy
  have ntx : ∀ {x : fl_H}, fl_df fl_SP h x → fl_net x 28 g := fun a => fl_net_fr nt (fl_df_i a (fun j => by omega)) (fun q z1 z2 => fl_df_l a (fun j => by omega))
  have p : fl_pl g < 256 ∧ ∀ k, k < g 1 → fl_pl g / 4 ^ k % 4 ≤ 2 := fl_okp_g w (g 76 - 1) (by omega)
  have k1 : ∀ k, k < g 0 → g (4 + k) = 8 → g 1 ≤ k := fun k hk h8 => by
    by_cases l : k < g 1
    · have := (w.2.1 k l).1; omega
    · omega
  have e115 := fc_115 gy N S w (ntx dy) (by omega) p.1 p.2 (fl_lvf g) (fun _ => fl_gl g) (fun _ k _ => fl_gl_le w hn k) (fun k hk h8 => by
    have kk := k1 k hk h8
    rw [fl_ww_la (by omega), fl_ww_lb, fl_hy_in ⟨kk, hk⟩, fl_hy_in ⟨kk, hk⟩]
    exact vg k hk)
  have e110 : fl_cl fl_C 110 [.ref 28] _ = some (some (some (.long (fl_B (fl_lvf g)))), _) := fc_110 gy N w (ntx dy)
  have e24 := fc_int R.2.2.2.1 gy (show g 76 - 1 < 24 by omega)
  rw [(dy.2.2.2 (27 + 34) (g 76 - 1) (by omega)).2, d.2.2.2.1 (g 76 - 1) (by omega), fl_o32, show g (78 + (g 76 - 1)) = fl_pl g from rfl] at e24
  have i3 : fl_i h 27 3 = Int32.ofNat (g 76) := d.2.1.1
  have y3 := (dy.2.2.2 27 3 (by omega)).1.trans i3
  have dz : fl_df fl_SP h (fl_tc (fl_ww h (202 + 6) (202 + 8) (fl_hy g (fl_l h (42 + 2)) (fl_l h (202 + 6)) (g 0)) (fl_hy g (fl_l h (42 + 4)) (fl_l h (202 + 8)) (g 0))) 202 g (fl_lvf g) (fl_pl g) (fun _ => fl_gl g)) := fl_df_tr dy (fl_tc_df (fun q j z => by omega))
  have v1 : ∀ k, k < g 0 → fl_l (fl_tc (fl_ww h (202 + 6) (202 + 8) (fl_hy g (fl_l h (42 + 2)) (fl_l h (202 + 6)) (g 0)) (fl_hy g (fl_l h (42 + 4)) (fl_l h (202 + 8)) (g 0))) 202 g (fl_lvf g) (fl_pl g) (fun _ => fl_gl g)) 204 k = fl_B (fun c => decide (fl_lay g (fl_fa (fl_lvf g) c) (fl_pl g) (fl_gl g) (g 0) k = 1)) := fun k hk => fl_tc_1 (o := 202) hk
  have v0 : ∀ k, k < g 0 → fl_l (fl_tc (fl_ww h (202 + 6) (202 + 8) (fl_hy g (fl_l h (42 + 2)) (fl_l h (202 + 6)) (g 0)) (fl_hy g (fl_l h (42 + 4)) (fl_l h (202 + 8)) (g 0))) 202 g (fl_lvf g) (fl_pl g) (fun _ => fl_gl g)) 206 k = fl_B (fun c => decide (fl_lay g (fl_fa (fl_lvf g) c) (fl_pl g) (fl_gl g) (g 0) k = 0)) := fun k hk => fl_tc_0 (o := 202) hk
  generalize fl_tc (fl_ww h (202 + 6) (202 + 8) (fl_hy g (fl_l h (42 + 2)) (fl_l h (202 + 6)) (g 0)) (fl_hy g (fl_l h (42 + 4)) (fl_l h (202 + 8)) (g 0))) 202 g (fl_lvf g) (fl_pl g) (fun _ => fl_gl g) = Z at *
  generalize fl_ww h (202 + 6) (202 + 8) (fl_hy g (fl_l h (42 + 2)) (fl_l h (202 + 6)) (g 0)) (fl_hy g (fl_l h (42 + 4)) (fl_l h (202 + 8)) (g 0)) = Y at *
  have gz := fl_df_g hg dz
  have zg : ∀ k, k < g 0 → fl_l Z 44 k = fl_B (fun _ => decide (fl_gl g k = 1)) ∧ fl_l Z 46 k = fl_B (fun _ => decide (fl_gl g k = 0)) := fun k hk => by
    rw [(dz.2.2.2 44 k (by omega)).2, (dz.2.2.2 46 k (by omega)).2]; exact vg k hk
  have e117 := fc_117 gz S G (k := o) (by omega)
  rw [show 202 + 2 = 204 from rfl, show 202 + 4 = 206 from rfl, show 42 + 2 = 44 from rfl, show 42 + 4 = 46 from rfl, v1 o lo, v0 o lo, (zg o lo).1, (zg o lo).2, fl_B_and, fl_B_and, fl_B_or] at e117
  have i1 : fl_i Z 28 1 = Int32.ofNat (g 0) := (ntx dz).1.2.1
  have o27 : fl_KK k0 27 = (1, 7) ∧ fl_RR 27 0 = some 28 ∧ fl_RR 27 1 = some 41 ∧ fl_RR 27 2 = some 60 := ⟨R.1.1, R.1.2.1, R.1.2.2.1, R.1.2.2.2.1⟩
  have o41 : fl_KK k0 41 = (1, 0) ∧ fl_RR 41 0 = some 42 := ⟨R.2.2.1.1.1, R.2.2.1.1.2.1⟩
  have o60 : fl_KK k0 60 = (1, 1) := R.2.2.2.1.1
  have o28 := N.1.1
  have o42 := G.1.1
  have o202 := S.1.1
  have lp := fl_iter (fun k => fl_Rn fl_C 191 99 [some (.ref 0), none, some (.ref 28), some (.ref 42), some (.long (fl_B (fun c => (decide (fl_lay g (fl_fa (fl_lvf g) c) (fl_pl g) (fl_gl g) (g 0) o = 1) && decide (fl_gl g o = 0)) || (decide (fl_lay g (fl_fa (fl_lvf g) c) (fl_pl g) (fl_gl g) (g 0) o = 0) && decide (fl_gl g o = 1))))), none, some (.int (fl_bi (fl_crq g o) (fun i => i) k)), some (.int (Int32.ofNat k))] [] Z) (g 0) (fun k hk => by
    have e158 := fc_158 (o := 42) gz G (k := k) (c := 0) (by omega) (by omega)
    rw [show 42 + 2 = 44 from rfl, show 42 + 4 = 46 from rfl, (zg k hk).1, (zg k hk).2, fl_hb_B _ (by omega), fl_hb_B _ (by omega)] at e158
    have gk := fl_gl_le w hn k
    have go := fl_gl_le w hn o
    have bb : fl_bi (fl_crq g o) (fun i => i) (k + 1) = fl_bi (fl_crq g o) (fun i => i) k ||| (if fl_crq g o k = true then Int32.ofNat 1 <<< (Int32.ofNat k &&& Int32.ofNat 31) else Int32.ofNat 0) := rfl
    have tvl := fl_tv_le w hn k (g 0) o (Nat.le_refl _)
    have fa : fl_gl g k ≠ 2 → fl_fa (fl_lvf g) (2 * k + 1 - fl_gl g k) = 2 * k + 1 - fl_gl g k := fun _ => by
      unfold fl_fa; rw [if_pos (decide_eq_true (by omega))]
    have e120 := fc_120 (h := Z) (fl_B (fun c => (decide (fl_lay g (fl_fa (fl_lvf g) c) (fl_pl g) (fl_gl g) (g 0) o = 1) && decide (fl_gl g o = 0)) || (decide (fl_lay g (fl_fa (fl_lvf g) c) (fl_pl g) (fl_gl g) (g 0) o = 0) && decide (fl_gl g o = 1)))) (f := 2 * k + 1 - fl_gl g k) (by omega)
    rw [fl_hb_B _ (by omega)] at e120
    try dsimp only
    rw [bb]
    generalize fl_B (fun c => (decide (fl_lay g (fl_fa (fl_lvf g) c) (fl_pl g) (fl_gl g) (g 0) o = 1) && decide (fl_gl g o = 0)) || (decide (fl_lay g (fl_fa (fl_lvf g) c) (fl_pl g) (fl_gl g) (g 0) o = 0) && decide (fl_gl g o = 1))) = TT at *
    by_cases c2 : fl_gl g k = 2
    · have q0 : fl_crq g o k = false := by unfold fl_crq; rw [decide_eq_false (show ¬ fl_gl g k ≠ 2 from fun z => z c2), Bool.false_and, Bool.and_false]
      rw [q0, if_neg (by decide), fl_or0]
      rw [c2, if_neg (by decide), if_neg (by decide)] at e158
      clear w w1 d nt ntx dy dz vg zg v1 v0 N R S G ho e117 e120 e115 e110 e24
      generalize fl_bi (fl_crq g o) (fun i => i) k = BB at *
      rw [fbC_191_99]
      simp (disch := omega) only [gz.1, o28, o42, fl_lit, fl_nadd, fl_nmul, fl_ndiv, fl_nsub, fl_msub, fl_nle, fl_nlt, fl_neq, fl_nclamp, fl_nin, fl_ltT, fl_ltF, fl_leT, fl_leF, fl_eqT, fl_eqF, decide_true, decide_false, Bool.true_and, Bool.and_true, Bool.false_and, Bool.and_false, if_true, if_false, Bool.false_eq_true, Option.isSome_some, Option.getD_some, not_true_eq_false, not_false_eq_true, Option.toList_some, Option.toList_none, List.cons_append, List.nil_append, i1, e158, fbP_191_115, fbC_191_149]
    · have hfa := fa c2
      have tvd : fl_lay g (2 * k + 1 - fl_gl g k) (fl_pl g) (fl_gl g) (g 0) o = fl_tv g k (g 0) o := rfl
      rw [hfa, tvd] at e120
      have q1 : ((decide (fl_tv g k (g 0) o = 1) && decide (fl_gl g o = 0)) || (decide (fl_tv g k (g 0) o = 0) && decide (fl_gl g o = 1))) = fl_crq g o k := by
        unfold fl_crq
        rw [decide_eq_true (show fl_gl g k ≠ 2 from c2), Bool.true_and]
        generalize fl_tv g k (g 0) o = tv at *
        generalize fl_gl g o = vo at *
        rcases (show vo = 0 ∨ vo = 1 ∨ vo = 2 by omega) with e | e | e <;> rcases (show tv = 0 ∨ tv = 1 ∨ tv = 2 by omega) with e' | e' | e' <;> subst e <;> subst e' <;> rfl
      rw [q1] at e120
      have isk : (if decide (fl_gl g k = 1) = true then Int32.ofNat 1 else if decide (fl_gl g k = 0) = true then Int32.ofNat 0 else Int32.ofNat 2) = Int32.ofNat (fl_gl g k) := by
        rcases (show fl_gl g k = 0 ∨ fl_gl g k = 1 by omega) with e | e <;> rw [e] <;> rfl
      rw [isk] at e158
      clear w w1 d nt ntx dy dz vg zg v1 v0 N R S G ho e117 e115 e110 e24 fa hfa tvd q1 isk bb
      generalize fl_bi (fl_crq g o) (fun i => i) k = BB at *
      generalize fl_gl g k = gk' at *
      cases z : fl_crq g o k with
      | true =>
        rw [z, if_pos rfl] at e120
        rw [if_pos rfl, fbC_191_99]
        simp (disch := omega) only [gz.1, o28, o42, fl_lit, fl_nadd, fl_nmul, fl_ndiv, fl_nsub, fl_msub, fl_nle, fl_nlt, fl_neq, fl_nclamp, fl_nin, fl_ltT, fl_ltF, fl_leT, fl_leF, fl_eqT, fl_eqF, decide_true, decide_false, Bool.true_and, Bool.and_true, Bool.false_and, Bool.and_false, if_true, if_false, Bool.false_eq_true, Option.isSome_some, Option.getD_some, not_true_eq_false, not_false_eq_true, Option.toList_some, Option.toList_none, List.cons_append, List.nil_append, i1, e158, fbP_191_115, e120, fbP_191_137, fbC_191_149]
      | false =>
        rw [z, if_neg (by decide)] at e120
        rw [if_neg (by decide), fl_or0, fbC_191_99]
        simp (disch := omega) only [gz.1, o28, o42, fl_lit, fl_nadd, fl_nmul, fl_ndiv, fl_nsub, fl_msub, fl_nle, fl_nlt, fl_neq, fl_nclamp, fl_nin, fl_ltT, fl_ltF, fl_leT, fl_leF, fl_eqT, fl_eqF, decide_true, decide_false, Bool.true_and, Bool.and_true, Bool.false_and, Bool.and_false, if_true, if_false, Bool.false_eq_true, Option.isSome_some, Option.getD_some, not_true_eq_false, not_false_eq_true, Option.toList_some, Option.toList_none, List.cons_append, List.nil_append, i1, e158, fbP_191_115, e120, fbP_191_137, fbC_191_149])
  have z1 : fl_i Z 4 1 = Int32.ofNat 6 := by rw [(dz.2.2.2 4 1 (by omega)).1]; exact e1
  have b := fc_190 (h := Z) (fl_crs g o)
  have t1 := fc_ca1 gz z1 (Int32.toInt64 (Int32.ofNat (fl_cnt (fl_hi (fl_crs g o)) 32)))
  refine ⟨Z, dz, ?_⟩
  have st : fl_cl fl_C 191 [.ref 0, .int (Int32.ofNat o)] h = fl_Rn fl_C 191 99 [some (.ref 0), none, some (.ref 28), some (.ref 42), some (.long (fl_B (fun c => (decide (fl_lay g (fl_fa (fl_lvf g) c) (fl_pl g) (fl_gl g) (g 0) o = 1) && decide (fl_gl g o = 0)) || (decide (fl_lay g (fl_fa (fl_lvf g) c) (fl_pl g) (fl_gl g) (g 0) o = 0) && decide (fl_gl g o = 1))))), none, some (.int (fl_bi (fl_crq g o) (fun i => i) 0)), some (.int (Int32.ofNat 0))] [] Z := by
    rw [show fl_bi (fl_crq g o) (fun i => i) 0 = Int32.ofNat 0 from rfl]
    clear w w1 d nt ntx dy dz vg zg v1 v0 N R S G ho lp b t1 k1
    generalize fl_B (fun c => (decide (fl_lay g (fl_fa (fl_lvf g) c) (fl_pl g) (fl_gl g) (g 0) o = 1) && decide (fl_gl g o = 0)) || (decide (fl_lay g (fl_fa (fl_lvf g) c) (fl_pl g) (fl_gl g) (g 0) o = 0) && decide (fl_gl g o = 1))) = TT at *
    generalize fl_pl g = pl at *
    rw [fbE_191]
    simp (disch := omega) only [hg.1, hg.2, gy.1, gy.2, gz.1, gz.2, fl_KF, fl_RF, o27, o28, o41, o42, o60, o202, fl_lit, fl_nadd, fl_nmul, fl_ndiv, fl_nsub, fl_msub, fl_nle, fl_nlt, fl_neq, fl_nclamp, fl_nin, fl_ltT, fl_ltF, fl_leT, fl_leF, fl_eqT, fl_eqF, decide_true, decide_false, Bool.true_and, Bool.and_true, Bool.false_and, Bool.and_false, if_true, if_false, Bool.false_eq_true, Option.isSome_some, Option.getD_some, not_true_eq_false, not_false_eq_true, Option.toList_some, Option.toList_none, List.cons_append, List.nil_append, e61, fbP_191_13, i3, e189, fbP_191_51, y3, e24, fbP_191_75, e110, fbP_191_79, e115, fbP_191_82, e117, fbP_191_91]
  rw [st, lp]
  try dsimp only
  rw [show fl_bi (fl_crq g o) (fun i => i) (g 0) = fl_crs g o from rfl]
  clear w w1 d nt ntx dy dz vg zg v1 v0 N R S G ho lp st k1
  generalize fl_ca1 Z (Int32.toInt64 (Int32.ofNat (fl_cnt (fl_hi (fl_crs g o)) 32))) = H1 at *
  generalize fl_cnt (fl_hi (fl_crs g o)) 32 = CC at *
  generalize fl_crs g o = CS at *
  rw [fbC_191_99]
  simp (disch := omega) only [gz.1, fl_KF, o28, fl_lit, fl_nadd, fl_nmul, fl_ndiv, fl_nsub, fl_msub, fl_nle, fl_nlt, fl_neq, fl_nclamp, fl_nin, fl_ltT, fl_ltF, fl_leT, fl_leF, fl_eqT, fl_eqF, decide_true, decide_false, Bool.true_and, Bool.and_true, Bool.false_and, Bool.and_false, if_true, if_false, Bool.false_eq_true, Option.isSome_some, Option.getD_some, not_true_eq_false, not_false_eq_true, Option.toList_some, Option.toList_none, List.cons_append, List.nil_append, i1, b, fbP_191_161, t1, fbP_191_165]
end
