/-! RUNS of the class: pieces of a tick -/
theorem fl_allf : ∀ F, F < 64 → ((1 : Int64) <<< (Int32.toInt64 (Int32.ofNat F) &&& 63)) - 1 = fl_B (fun c => decide (c < F)) := by decide +kernel
theorem fl_k_tc {h : fl_H} {o : Nat} {g : Nat → Nat} {lv : Nat → Bool} {pt : Nat} {hd : Nat → Nat → Nat} : fl_k (fl_tc h o g lv pt hd) = fl_k h := by
  unfold fl_tc; rw [fl_k_ww, fl_k_ww]
theorem fl_r_tc {h : fl_H} {o : Nat} {g : Nat → Nat} {lv : Nat → Bool} {pt : Nat} {hd : Nat → Nat → Nat} : fl_r (fl_tc h o g lv pt hd) = fl_r h := by
  unfold fl_tc; rw [fl_r_ww, fl_r_ww]
theorem fl_i_tc {h : fl_H} {o : Nat} {g : Nat → Nat} {lv : Nat → Bool} {pt : Nat} {hd : Nat → Nat → Nat} : fl_i (fl_tc h o g lv pt hd) = fl_i h := by
  unfold fl_tc; rw [fl_i_ww, fl_i_ww]
theorem fl_1_tc {h : fl_H} {o : Nat} {g : Nat → Nat} {lv : Nat → Bool} {pt : Nat} {hd : Nat → Nat → Nat} : (fl_tc h o g lv pt hd).1 = h.1 := by
  unfold fl_tc; rw [fl_1_ww, fl_1_ww]
theorem fl_tc_lo {h : fl_H} {o : Nat} {g : Nat → Nat} {lv : Nat → Bool} {pt : Nat} {hd : Nat → Nat → Nat} {q : Nat} (h2 : q ≠ o + 2) (h4 : q ≠ o + 4) (h6 : q ≠ o + 6) (h8 : q ≠ o + 8) : fl_l (fl_tc h o g lv pt hd) q = fl_l h q := by
  unfold fl_tc
  rw [fl_ww_lo h6 h8, fl_ww_lo h2 h4]
theorem fl_tc_1 {h : fl_H} {o : Nat} {g : Nat → Nat} {lv : Nat → Bool} {pt : Nat} {hd : Nat → Nat → Nat} {j : Nat} (hj : j < g 0) : fl_l (fl_tc h o g lv pt hd) (o + 2) j = fl_B (fun c => decide (fl_lay g (fl_fa lv c) pt (hd c) (g 0) j = 1)) := by
  unfold fl_tc
  rw [fl_ww_lo (by omega) (by omega), fl_ww_la (by omega), fl_al_lt hj]
  rfl
theorem fl_tc_0 {h : fl_H} {o : Nat} {g : Nat → Nat} {lv : Nat → Bool} {pt : Nat} {hd : Nat → Nat → Nat} {j : Nat} (hj : j < g 0) : fl_l (fl_tc h o g lv pt hd) (o + 4) j = fl_B (fun c => decide (fl_lay g (fl_fa lv c) pt (hd c) (g 0) j = 0)) := by
  unfold fl_tc
  rw [fl_ww_lo (by omega) (by omega), fl_ww_lb, fl_al_lt hj]
  rfl
theorem fl_tc_h1 {h : fl_H} {o : Nat} {g : Nat → Nat} {lv : Nat → Bool} {pt : Nat} {hd : Nat → Nat → Nat} {j : Nat} (hj : g 1 ≤ j ∧ j < g 0 ∧ g (4 + j) = 8) : fl_l (fl_tc h o g lv pt hd) (o + 6) j = fl_B (fun c => decide (fl_nh g (fl_fa lv c) (fl_lay g (fl_fa lv c) pt (hd c) (g 0)) j = 1)) := by
  unfold fl_tc
  rw [fl_ww_la (by omega), fl_hx_in hj]
  rfl
theorem fl_tc_h0 {h : fl_H} {o : Nat} {g : Nat → Nat} {lv : Nat → Bool} {pt : Nat} {hd : Nat → Nat → Nat} {j : Nat} (hj : g 1 ≤ j ∧ j < g 0 ∧ g (4 + j) = 8) : fl_l (fl_tc h o g lv pt hd) (o + 8) j = fl_B (fun c => decide (fl_nh g (fl_fa lv c) (fl_lay g (fl_fa lv c) pt (hd c) (g 0)) j = 0)) := by
  unfold fl_tc
  rw [fl_ww_lb, fl_hx_in hj]
  rfl
/-- some entries change -/
def fl_qq (q : Nat → Bool) (A old : Nat → Int64) (k : Nat) : Nat → Int64 := fun j => if j < k ∧ q j = true then A j else old j
theorem fl_qq_0 {q : Nat → Bool} {A old : Nat → Int64} : fl_qq q A old 0 = old := by
  funext j
  exact if_neg (by omega)
theorem fl_qq_yes {q : Nat → Bool} {A old : Nat → Int64} {k : Nat} (hq : q k = true) : fl_up (fl_qq q A old k) k (A k) = fl_qq q A old (k + 1) := by
  funext j
  by_cases e : j = k
  · subst e
    rw [fl_up_self]
    exact (if_pos ⟨by omega, hq⟩).symm
  · rw [fl_up_ne e]
    unfold fl_qq
    by_cases l : j < k ∧ q j = true
    · rw [if_pos l, if_pos ⟨by omega, l.2⟩]
    · rw [if_neg l, if_neg (fun z => l ⟨by omega, z.2⟩)]
theorem fl_qq_no {q : Nat → Bool} {A old : Nat → Int64} {k : Nat} (hq : q k = false) : fl_qq q A old k = fl_qq q A old (k + 1) := by
  funext j
  unfold fl_qq
  by_cases l : j < k ∧ q j = true
  · rw [if_pos l, if_pos ⟨by omega, l.2⟩]
  · rw [if_neg l]
    by_cases e : j = k
    · subst e; rw [if_neg (fun z => by rw [hq] at z; exact absurd z.2 (by decide))]
    · rw [if_neg (fun z => l ⟨by omega, z.2⟩)]
section
variable {k0 : Nat → Nat × Nat} {h : fl_H} {g : Nat → Nat} {n o p b r : Nat}
theorem fc_110 (hg : fl_g k0 h) (nn : fl_isN k0 n) (w : fl_wf g) (d : fl_net h n g) : fl_cl fl_C 110 [.ref n] h = some (some (some (.long (fl_B (fun c => decide (c < 2 * (g 0 + g 2)))))), h) := by
  have w1 := w.1
  have g0 : g 0 ≤ 12 := by omega
  have g2 : g 2 ≤ 20 := by omega
  have e66 := fc_66 hg nn w d
  clear w w1 d
  rw [fbE_110]
  by_cases c : 2 * (g 0 + g 2) < 64
  · have e := fl_allf _ c
    simp (disch := omega) only [hg.1, nn.1, fl_lit, fl_nadd, fl_nmul, fl_ndiv, fl_nsub, fl_msub, fl_nle, fl_nlt, fl_neq, fl_nclamp, fl_nin, fl_ltT, fl_ltF, fl_leT, fl_leF, fl_eqT, fl_eqF, decide_true, decide_false, Bool.true_and, Bool.and_true, Bool.false_and, Bool.and_false, if_true, if_false, Bool.false_eq_true, Option.isSome_some, Option.getD_some, not_true_eq_false, not_false_eq_true, Option.toList_some, Option.toList_none, List.cons_append, List.nil_append, e66, fbP_110_4, fbP_110_20, e]
  · have e : fl_B (fun c => decide (c < 2 * (g 0 + g 2))) = -1 := by
      rw [fl_B_m1]
      exact fl_B_congr fun c' hc' => decide_eq_true (by omega)
    rw [e]
    simp (disch := omega) only [hg.1, nn.1, fl_lit, fl_nadd, fl_nmul, fl_ndiv, fl_nsub, fl_msub, fl_nle, fl_nlt, fl_neq, fl_nclamp, fl_nin, fl_ltT, fl_ltF, fl_leT, fl_leF, fl_eqT, fl_eqF, decide_true, decide_false, Bool.true_and, Bool.and_true, Bool.false_and, Bool.and_false, if_true, if_false, Bool.false_eq_true, Option.isSome_some, Option.getD_some, not_true_eq_false, not_false_eq_true, Option.toList_some, Option.toList_none, List.cons_append, List.nil_append, e66, fbP_110_4]
theorem fc_116 (hg : fl_g k0 h) (nn : fl_isN k0 n) (bb : fl_isB k0 b) (w : fl_wf g) (d : fl_net h n g) (sep : n + 12 < b ∨ b + 18 < n) {pt : Nat} (hp : pt < 256) (hp2 : ∀ k, k < g 1 → pt / 4 ^ k % 4 ≤ 2) (lv : Nat → Bool) (hd hd' : Nat → Nat → Nat) (hh : ∀ c k, k < g 0 → hd c k ≤ 2) (hh' : ∀ c k, k < g 0 → hd' c k ≤ 2)
    (hr : ∀ k, k < g 0 → g (4 + k) = 8 → fl_l h (b + 1 + 6) k = fl_B (fun c => decide (hd c k = 1)) ∧ fl_l h (b + 1 + 8) k = fl_B (fun c => decide (hd c k = 0)))
    (hr' : ∀ k, k < g 0 → g (4 + k) = 8 → fl_l h (b + 10 + 6) k = fl_B (fun c => decide (hd' c k = 1)) ∧ fl_l h (b + 10 + 8) k = fl_B (fun c => decide (hd' c k = 0))) :
    fl_cl fl_C 116 [.ref b, .ref n, .int (Int32.ofNat pt), .long (fl_B lv)] h = some (some none, fl_tc (fl_tc h (b + 1) g (fun _ => false) pt hd) (b + 10) g lv pt hd') := by
  have e1 := fc_115 hg nn bb.2.1 w d (by omega) hp hp2 (fun _ => false) hd hh hr
  have hg2 : fl_g k0 (fl_tc h (b + 1) g (fun _ => false) pt hd) := ⟨fl_k_tc.trans hg.1, fl_r_tc.trans hg.2⟩
  have e2 := fc_115 hg2 nn bb.2.2 w (fl_net_fr d (by rw [fl_i_tc]) (fun q h1 h2 => fl_tc_lo (by omega) (by omega) (by omega) (by omega))) (by omega) hp hp2 lv hd' hh' (by
    intro k hk h8
    rw [fl_tc_lo (by omega) (by omega) (by omega) (by omega), fl_tc_lo (by omega) (by omega) (by omega) (by omega)]
    exact hr' k hk h8)
  rw [← fl_B_0] at e1
  clear w d hr hr' hh hh' hp2
  rw [fbE_116]
  simp (disch := omega) only [hg.1, hg.2, hg2.1, hg2.2, bb.1, bb.2.1.1, bb.2.2.1, fl_lit, fl_nadd, fl_nmul, fl_ndiv, fl_nsub, fl_msub, fl_nle, fl_nlt, fl_neq, fl_nclamp, fl_nin, fl_ltT, fl_ltF, fl_leT, fl_leF, fl_eqT, fl_eqF, decide_true, decide_false, Bool.true_and, Bool.and_true, Bool.false_and, Bool.and_false, if_true, if_false, Bool.false_eq_true, Option.isSome_some, Option.getD_some, not_true_eq_false, not_false_eq_true, Option.toList_some, Option.toList_none, List.cons_append, List.nil_append, e1, fbP_116_10, e2, fbP_116_20]
theorem fc_122 (hg : fl_g k0 h) (rr : fl_isR k0 r) (w : fl_wf g) (d : fl_net h (r + 1) g) (q : Nat → Bool) : fl_cl fl_C 122 [.ref r, .long (fl_B q)] h = some (some none, fl_wl (fl_ww h (r + 36) (r + 38) (fl_qq q (fun _ => Int32.toInt64 (fl_i h r 3)) (fl_l h (r + 36)) 64) (fl_qq q (fl_os h (r + 14) g) (fl_l h (r + 38)) 64)) r (fl_up (fl_l h r) 5 (fl_l h r 5 ||| fl_B q))) := by
  have lp := fl_iter (fun k => fl_Rn fl_C 122 2 [some (.ref r), some (.long (fl_B q)), none, some (.int (Int32.ofNat k))] [] (fl_ww h (r + 36) (r + 38) (fl_qq q (fun _ => Int32.toInt64 (fl_i h r 3)) (fl_l h (r + 36)) k) (fl_qq q (fl_os h (r + 14) g) (fl_l h (r + 38)) k))) 64 (by
    intro k hk
    try dsimp only
    have hgw : ∀ A B, fl_g k0 (fl_ww h (r + 36) (r + 38) A B) := fun A B => hg
    have eb := fun H => fc_120 (h := H) (fl_B q) hk
    rw [fl_hb_B q hk] at eb
    have eo : ∀ A B, fl_os (fl_ww h (r + 36) (r + 38) A B) (r + 14) g k = fl_os h (r + 14) g k := fun A B => by
      unfold fl_os fl_dl
      rw [fl_ww_lo (by omega) (by omega), fl_ww_lo (by omega) (by omega), fl_ww_lo (by omega) (by omega), fl_ww_lo (by omega) (by omega)]
    have e121 : ∀ A B, fl_cl fl_C 121 [.ref r, .int (Int32.ofNat k)] (fl_ww h (r + 36) (r + 38) A B) = some (some (some (.long (fl_os h (r + 14) g k))), fl_ww h (r + 36) (r + 38) A B) := fun A B => by
      rw [fc_121 (hgw A B) rr w (fl_net_fr d rfl (fun b h1 h2 => fl_ww_lo (by omega) (by omega))) hk, eo]
    have p1 : ∀ A B v, fl_cl fl_C 20 [.ref (r + 35), .int (Int32.ofNat k), .long v] (fl_ww h (r + 36) (r + 38) A B) = some (some none, fl_ww h (r + 36) (r + 38) (fl_up A k v) B) := fun A B v => by
      rw [fc_put rr.2.2.2.2.1 (hgw A B) hk, fl_ww_la (by omega), fl_ww_a (by omega)]
    have p0 : ∀ A B v, fl_cl fl_C 20 [.ref (r + 37), .int (Int32.ofNat k), .long v] (fl_ww h (r + 36) (r + 38) A B) = some (some none, fl_ww h (r + 36) (r + 38) A (fl_up B k v)) := fun A B v => by
      rw [fc_put rr.2.2.2.2.2 (hgw A B) hk, fl_ww_lb, fl_ww_b]
    clear w d eo hgw
    rw [fbC_122_2]
    rcases Bool.eq_false_or_eq_true (q k) with e | e
    · rw [e] at eb
      have y1 := fl_qq_yes (A := fun _ => Int32.toInt64 (fl_i h r 3)) (old := fl_l h (r + 36)) e
      have y0 := fl_qq_yes (A := fl_os h (r + 14) g) (old := fl_l h (r + 38)) e
      simp (disch := omega) only [fl_k_ww, fl_r_ww, fl_i_ww, hg.1, hg.2, rr.1, rr.2.2.2.2.1, rr.2.2.2.2.2, fl_lit, fl_nadd, fl_nmul, fl_ndiv, fl_nsub, fl_msub, fl_nle, fl_nlt, fl_neq, fl_nclamp, fl_nin, fl_ltT, fl_ltF, fl_leT, fl_leF, fl_eqT, fl_eqF, decide_true, decide_false, Bool.true_and, Bool.and_true, Bool.false_and, Bool.and_false, if_true, if_false, Bool.false_eq_true, Option.isSome_some, Option.getD_some, not_true_eq_false, not_false_eq_true, Option.toList_some, Option.toList_none, List.cons_append, List.nil_append, eb, fbP_122_13, p1, fbP_122_29, e121, fbP_122_39, p0, fbP_122_42, fbC_122_42, y1, y0]
    · rw [e] at eb
      have y1 := fl_qq_no (A := fun _ => Int32.toInt64 (fl_i h r 3)) (old := fl_l h (r + 36)) e
      have y0 := fl_qq_no (A := fl_os h (r + 14) g) (old := fl_l h (r + 38)) e
      rw [← y1, ← y0]
      simp (disch := omega) only [fl_k_ww, fl_r_ww, fl_i_ww, hg.1, hg.2, rr.1, fl_lit, fl_nadd, fl_nmul, fl_ndiv, fl_nsub, fl_msub, fl_nle, fl_nlt, fl_neq, fl_nclamp, fl_nin, fl_ltT, fl_ltF, fl_leT, fl_leF, fl_eqT, fl_eqF, decide_true, decide_false, Bool.true_and, Bool.and_true, Bool.false_and, Bool.and_false, if_true, if_false, Bool.false_eq_true, Option.isSome_some, Option.getD_some, not_true_eq_false, not_false_eq_true, Option.toList_some, Option.toList_none, List.cons_append, List.nil_append, eb, fbP_122_13, fbC_122_42])
  have e0 : h = fl_ww h (r + 36) (r + 38) (fl_qq q (fun _ => Int32.toInt64 (fl_i h r 3)) (fl_l h (r + 36)) 0) (fl_qq q (fl_os h (r + 14) g) (fl_l h (r + 38)) 0) := (fl_ww_self fl_qq_0 fl_qq_0 (by omega)).symm
  have lp' : fl_Rn fl_C 122 2 [some (.ref r), some (.long (fl_B q)), none, some (.int 0)] [] h = _ := (congrArg (fun z => fl_Rn fl_C 122 2 [some (.ref r), some (.long (fl_B q)), none, some (.int 0)] [] z) e0).trans lp
  have lr : ∀ A B, fl_l (fl_ww h (r + 36) (r + 38) A B) r = fl_l h r := fun A B => fl_ww_lo (by omega) (by omega)
  rw [fbE_122, lp', fbC_122_2]
  clear lp lp' e0 w d
  simp (disch := omega) only [fl_k_ww, fl_r_ww, fl_i_ww, hg.1, hg.2, rr.1, fl_lit, fl_nadd, fl_nmul, fl_ndiv, fl_nsub, fl_msub, fl_nle, fl_nlt, fl_neq, fl_nclamp, fl_nin, fl_ltT, fl_ltF, fl_leT, fl_leF, fl_eqT, fl_eqF, decide_true, decide_false, Bool.true_and, Bool.and_true, Bool.false_and, Bool.and_false, if_true, if_false, Bool.false_eq_true, Option.isSome_some, Option.getD_some, not_true_eq_false, not_false_eq_true, Option.toList_some, Option.toList_none, List.cons_append, List.nil_append, fl_sl_wl, lr]
theorem fc_123 (hg : fl_g k0 h) (so : fl_isS k0 o) (sp : fl_isS k0 p) (sep : p + 8 < o ∨ o + 8 < p) (S : Int64) : fl_cl fl_C 123 [.ref o, .ref p, .long S] h = some (some none, fl_ww h (o + 6) (o + 8) (fl_al 12 (fun j => (fl_l h (o + 6) j &&& (S ^^^ (-1))) ||| (fl_l h (p + 6) j &&& S)) (fl_l h (o + 6))) (fl_al 12 (fun j => (fl_l h (o + 8) j &&& (S ^^^ (-1))) ||| (fl_l h (p + 8) j &&& S)) (fl_l h (o + 8)))) := by
  have lp := fl_iter (fun k => fl_Rn fl_C 123 3 [some (.ref o), some (.ref p), some (.long S), none, some (.int (Int32.ofNat k))] [] (fl_ww h (o + 6) (o + 8) (fl_al k (fun j => (fl_l h (o + 6) j &&& (S ^^^ (-1))) ||| (fl_l h (p + 6) j &&& S)) (fl_l h (o + 6))) (fl_al k (fun j => (fl_l h (o + 8) j &&& (S ^^^ (-1))) ||| (fl_l h (p + 8) j &&& S)) (fl_l h (o + 8))))) 12 (by
    intro k hk
    try dsimp only
    have hgw : ∀ A B, fl_g k0 (fl_ww h (o + 6) (o + 8) A B) := fun A B => hg
    have a1 : ∀ A B, fl_cl fl_C 105 [.ref (o + 5), .int (Int32.ofNat k)] (fl_ww h (o + 6) (o + 8) A B) = some (some (some (.long (A k))), fl_ww h (o + 6) (o + 8) A B) := fun A B => by
      rw [fc_at so.2.2.2.1 (hgw A B) hk, fl_ww_la (by omega)]
    have a0 : ∀ A B, fl_cl fl_C 105 [.ref (o + 7), .int (Int32.ofNat k)] (fl_ww h (o + 6) (o + 8) A B) = some (some (some (.long (B k))), fl_ww h (o + 6) (o + 8) A B) := fun A B => by
      rw [fc_at so.2.2.2.2 (hgw A B) hk, fl_ww_lb]
    have c1 : ∀ A B, fl_cl fl_C 105 [.ref (p + 5), .int (Int32.ofNat k)] (fl_ww h (o + 6) (o + 8) A B) = some (some (some (.long (fl_l h (p + 6) k))), fl_ww h (o + 6) (o + 8) A B) := fun A B => by
      rw [fc_at sp.2.2.2.1 (hgw A B) hk, fl_ww_lo (by omega) (by omega)]
    have c0 : ∀ A B, fl_cl fl_C 105 [.ref (p + 7), .int (Int32.ofNat k)] (fl_ww h (o + 6) (o + 8) A B) = some (some (some (.long (fl_l h (p + 8) k))), fl_ww h (o + 6) (o + 8) A B) := fun A B => by
      rw [fc_at sp.2.2.2.2 (hgw A B) hk, fl_ww_lo (by omega) (by omega)]
    have p1 : ∀ A B v, fl_cl fl_C 20 [.ref (o + 5), .int (Int32.ofNat k), .long v] (fl_ww h (o + 6) (o + 8) A B) = some (some none, fl_ww h (o + 6) (o + 8) (fl_up A k v) B) := fun A B v => by
      rw [fc_put so.2.2.2.1 (hgw A B) hk, fl_ww_la (by omega), fl_ww_a (by omega)]
    have p0 : ∀ A B v, fl_cl fl_C 20 [.ref (o + 7), .int (Int32.ofNat k), .long v] (fl_ww h (o + 6) (o + 8) A B) = some (some none, fl_ww h (o + 6) (o + 8) A (fl_up B k v)) := fun A B v => by
      rw [fc_put so.2.2.2.2 (hgw A B) hk, fl_ww_lb, fl_ww_b]
    have y1 := fl_al_succ (k := k) (f := fun j => (fl_l h (o + 6) j &&& (S ^^^ (-1))) ||| (fl_l h (p + 6) j &&& S)) (old := fl_l h (o + 6)) rfl
    have y0 := fl_al_succ (k := k) (f := fun j => (fl_l h (o + 8) j &&& (S ^^^ (-1))) ||| (fl_l h (p + 8) j &&& S)) (old := fl_l h (o + 8)) rfl
    have z1 := fl_al_ge (n := k) (j := k) (f := fun j => (fl_l h (o + 6) j &&& (S ^^^ (-1))) ||| (fl_l h (p + 6) j &&& S)) (old := fl_l h (o + 6)) (Nat.le_refl k)
    have z0 := fl_al_ge (n := k) (j := k) (f := fun j => (fl_l h (o + 8) j &&& (S ^^^ (-1))) ||| (fl_l h (p + 8) j &&& S)) (old := fl_l h (o + 8)) (Nat.le_refl k)
    clear hgw
    rw [fbC_123_3]
    simp (disch := omega) only [fl_k_ww, fl_r_ww, fl_i_ww, hg.1, hg.2, so.1, so.2.2.2.1, so.2.2.2.2, sp.1, sp.2.2.2.1, sp.2.2.2.2, fl_lit, fl_nadd, fl_nmul, fl_ndiv, fl_nsub, fl_msub, fl_nle, fl_nlt, fl_neq, fl_nclamp, fl_nin, fl_ltT, fl_ltF, fl_leT, fl_leF, fl_eqT, fl_eqF, decide_true, decide_false, Bool.true_and, Bool.and_true, Bool.false_and, Bool.and_false, if_true, if_false, Bool.false_eq_true, Option.isSome_some, Option.getD_some, not_true_eq_false, not_false_eq_true, Option.toList_some, Option.toList_none, List.cons_append, List.nil_append, a1, z1, c1, fbP_123_25, fbP_123_40, p1, y1, fbP_123_46, a0, z0, c0, fbP_123_61, fbP_123_76, p0, y0, fbP_123_82])
  have e0 : h = fl_ww h (o + 6) (o + 8) (fl_al 0 (fun j => (fl_l h (o + 6) j &&& (S ^^^ (-1))) ||| (fl_l h (p + 6) j &&& S)) (fl_l h (o + 6))) (fl_al 0 (fun j => (fl_l h (o + 8) j &&& (S ^^^ (-1))) ||| (fl_l h (p + 8) j &&& S)) (fl_l h (o + 8))) := (fl_ww_self fl_al_0 fl_al_0 (by omega)).symm
  have lp' : fl_Rn fl_C 123 3 [some (.ref o), some (.ref p), some (.long S), none, some (.int 0)] [] h = _ := (congrArg (fun z => fl_Rn fl_C 123 3 [some (.ref o), some (.ref p), some (.long S), none, some (.int 0)] [] z) e0).trans lp
  rw [fbE_123, lp', fbC_123_3]
  clear lp lp' e0
  simp (disch := omega) only [fl_lit, fl_nadd, fl_nmul, fl_ndiv, fl_nsub, fl_msub, fl_nle, fl_nlt, fl_neq, fl_nclamp, fl_nin, fl_ltT, fl_ltF, fl_leT, fl_leF, fl_eqT, fl_eqF, decide_true, decide_false, Bool.true_and, Bool.and_true, Bool.false_and, Bool.and_false, if_true, if_false, Bool.false_eq_true, Option.isSome_some, Option.getD_some, not_true_eq_false, not_false_eq_true, Option.toList_some, Option.toList_none, List.cons_append, List.nil_append]
end
