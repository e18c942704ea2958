/-! A TICK of a side, whole -/
theorem fl_gt_reg {g : Nat → Nat} {f : Nat} {v : Nat → Nat} {k : Nat} (hs : g (4 + k) = 8) (hw : g (28 + k) = 1) (hv : ∀ j, v j ≤ 2) : fl_gt g f v k = fl_nh g f v k := by
  have q : fl_pv g f v (g (16 + k)) ≤ 2 := fl_pv_le (hv _)
  unfold fl_gt fl_nh fl_gx fl_gr fl_gn
  rw [hs, hw, if_pos rfl]
  simp only [fl_cnt, Nat.add_zero, Nat.zero_add]
  generalize fl_pv g f v (g (16 + k)) = x at q ⊢
  rcases (show x = 0 ∨ x = 1 ∨ x = 2 by omega) with e | e | e <;> subst e <;> rfl
/-- registers alone change -/
def fl_hx (g : Nat → Nat) (A old : Nat → Int64) (k : Nat) : Nat → Int64 := fun j => if g 1 ≤ j ∧ j < k ∧ g (4 + j) = 8 then A j else old j
theorem fl_hx_0 {g : Nat → Nat} {A old : Nat → Int64} : fl_hx g A old (g 1) = old := by
  funext j
  exact if_neg (by omega)
theorem fl_hx_yes {g : Nat → Nat} {A old : Nat → Int64} {k : Nat} (hk : g 1 ≤ k) (h8 : g (4 + k) = 8) : fl_up (fl_hx g A old k) k (A k) = fl_hx g A old (k + 1) := by
  funext j
  by_cases e : j = k
  · subst e
    rw [fl_up_self]
    exact (if_pos (by omega)).symm
  · rw [fl_up_ne e]
    unfold fl_hx
    by_cases l : g 1 ≤ j ∧ j < k ∧ g (4 + j) = 8
    · rw [if_pos l, if_pos (by omega)]
    · rw [if_neg l, if_neg (by omega)]
theorem fl_hx_no {g : Nat → Nat} {A old : Nat → Int64} {k : Nat} (h8 : g (4 + k) ≠ 8) : fl_hx g A old k = fl_hx g A old (k + 1) := by
  funext j
  unfold fl_hx
  by_cases l : g 1 ≤ j ∧ j < k ∧ g (4 + j) = 8
  · rw [if_pos l, if_pos (by omega)]
  · rw [if_neg l]
    by_cases e : j = k
    · rw [if_neg (by rw [e]; omega)]
    · rw [if_neg (by omega)]
theorem fl_hx_in {g : Nat → Nat} {A old : Nat → Int64} {k j : Nat} (h : g 1 ≤ j ∧ j < k ∧ g (4 + j) = 8) : fl_hx g A old k j = A j := if_pos h
def fl_nv (g : Nat → Nat) (lv : Nat → Bool) (pt : Nat) (hd : Nat → Nat → Nat) (z : Nat) : Nat → Int64 := fun j => fl_B (fun c => decide (fl_nh g (fl_fa lv c) (fl_lay g (fl_fa lv c) pt (hd c) (g 0)) j = z))
/-- the heap behind a tick of a side -/
def fl_tc (h : fl_H) (o : Nat) (g : Nat → Nat) (lv : Nat → Bool) (pt : Nat) (hd : Nat → Nat → Nat) : fl_H := fl_ww (fl_ww h (o + 2) (o + 4) (fl_al (g 0) (fl_lvv g lv pt hd 1 (g 0)) (fl_l h (o + 2))) (fl_al (g 0) (fl_lvv g lv pt hd 0 (g 0)) (fl_l h (o + 4)))) (o + 6) (o + 8) (fl_hx g (fl_nv g lv pt hd 1) (fl_l h (o + 6)) (g 0)) (fl_hx g (fl_nv g lv pt hd 0) (fl_l h (o + 8)) (g 0))
theorem fc_115 {k0 : Nat → Nat × Nat} {h : fl_H} {g : Nat → Nat} {n o : Nat} (hg : fl_g k0 h) (nn : fl_isN k0 n) (ss : fl_isS k0 o) (w : fl_wf g) (d : fl_net h n g) (sep : n + 12 < o ∨ o + 8 < n) {pt : Nat} (hp : pt < 256) (hp2 : ∀ k, k < g 1 → pt / 4 ^ k % 4 ≤ 2) (lv : Nat → Bool) (hd : Nat → Nat → Nat) (hh : ∀ c k, k < g 0 → hd c k ≤ 2) (hr : ∀ k, k < g 0 → g (4 + k) = 8 → fl_l h (o + 6) k = fl_B (fun c => decide (hd c k = 1)) ∧ fl_l h (o + 8) k = fl_B (fun c => decide (hd c k = 0))) :
    fl_cl fl_C 115 [.ref o, .ref n, .int (Int32.ofNat pt), .long (fl_B lv)] h = some (some none, fl_tc h o g lv pt hd) := by
  have w1 := w.1
  have g12 : g 0 ≤ 12 := by omega
  have g14 : g 1 ≤ 12 := by omega
  have lp := fl_iter (fun k => fl_Rn fl_C 115 3 [some (.ref o), some (.ref n), some (.int (Int32.ofNat pt)), some (.long (fl_B lv)), none, some (.int (Int32.ofNat k))] [] (fl_ww h (o + 2) (o + 4) (fl_al k (fl_lvv g lv pt hd 1 k) (fl_l h (o + 2))) (fl_al k (fl_lvv g lv pt hd 0 k) (fl_l h (o + 4))))) (g 0) (fun k hk => fc_115s hg nn ss w d sep hp lv hd hr hk)
  have e0 : h = fl_ww h (o + 2) (o + 4) (fl_al 0 (fl_lvv g lv pt hd 1 0) (fl_l h (o + 2))) (fl_al 0 (fl_lvv g lv pt hd 0 0) (fl_l h (o + 4))) := (fl_ww_self fl_al_0 fl_al_0 (by omega)).symm
  have lp' : fl_Rn fl_C 115 3 [some (.ref o), some (.ref n), some (.int (Int32.ofNat pt)), some (.long (fl_B lv)), none, some (.int 0)] [] h = _ := (congrArg (fun z => fl_Rn fl_C 115 3 [some (.ref o), some (.ref n), some (.int (Int32.ofNat pt)), some (.long (fl_B lv)), none, some (.int 0)] [] z) e0).trans lp
  rw [fbE_115, lp']
  clear lp lp' e0
  -- the heap between
  obtain ⟨H, hH⟩ : ∃ H, H = fl_ww h (o + 2) (o + 4) (fl_al (g 0) (fl_lvv g lv pt hd 1 (g 0)) (fl_l h (o + 2))) (fl_al (g 0) (fl_lvv g lv pt hd 0 (g 0)) (fl_l h (o + 4))) := ⟨_, rfl⟩
  have hgH : fl_g k0 H := by rw [hH]; exact hg
  have dH : fl_net H n g := by rw [hH]; exact fl_net_fr d rfl (fun b h1 h2 => fl_ww_lo (by omega) (by omega))
  have H1 : ∀ j, j < g 0 → fl_l H (o + 2) j = fl_B (fun c => decide (fl_lay g (fl_fa lv c) pt (hd c) (g 0) j = 1)) := fun j hj => by rw [hH, fl_ww_la (by omega), fl_al_lt hj]; rfl
  have H0 : ∀ j, j < g 0 → fl_l H (o + 4) j = fl_B (fun c => decide (fl_lay g (fl_fa lv c) pt (hd c) (g 0) j = 0)) := fun j hj => by rw [hH, fl_ww_lb, fl_al_lt hj]; rfl
  have H6 : fl_l H (o + 6) = fl_l h (o + 6) := by rw [hH]; exact fl_ww_lo (by omega) (by omega)
  have H8 : fl_l H (o + 8) = fl_l h (o + 8) := by rw [hH]; exact fl_ww_lo (by omega) (by omega)
  unfold fl_tc
  rw [← hH]
  have d1 := dH.1
  have st : fl_Rn fl_C 115 3 [some (.ref o), some (.ref n), some (.int (Int32.ofNat pt)), some (.long (fl_B lv)), none, some (.int (Int32.ofNat (g 0)))] [] H = fl_Rn fl_C 115 165 [some (.ref o), some (.ref n), none, some (.long (fl_B lv)), none, some (.int (Int32.ofNat (g 1)))] [] H := by
    clear w w1 d dH hr H1 H0
    rw [fbC_115_3]
    simp (disch := omega) only [hgH.1, nn.1, d1, fl_lit, fl_nadd, fl_nmul, fl_ndiv, fl_nsub, fl_msub, fl_nle, fl_nlt, fl_neq, fl_nclamp, fl_nin, fl_ltT, fl_ltF, fl_leT, fl_leF, fl_eqT, fl_eqF, decide_true, decide_false, Bool.true_and, Bool.and_true, Bool.false_and, Bool.and_false, if_true, if_false, Bool.false_eq_true, Option.isSome_some, Option.getD_some, not_true_eq_false, not_false_eq_true, Option.toList_some, Option.toList_none, List.cons_append, List.nil_append]
  have lp2 := fl_iter (fun i => fl_Rn fl_C 115 165 [some (.ref o), some (.ref n), none, some (.long (fl_B lv)), none, some (.int (Int32.ofNat (g 1 + i)))] [] (fl_ww H (o + 6) (o + 8) (fl_hx g (fl_nv g lv pt hd 1) (fl_l h (o + 6)) (g 1 + i)) (fl_hx g (fl_nv g lv pt hd 0) (fl_l h (o + 8)) (g 1 + i)))) (g 0 - g 1) (by
    intro i hi
    try dsimp only
    have hk : g 1 + i < g 0 := by omega
    generalize hkk : g 1 + i = k at hk ⊢
    have k12 : k < 12 := by omega
    have hgw : ∀ A B, fl_g k0 (fl_ww H (o + 6) (o + 8) A B) := fun A B => hgH
    have dw : ∀ A B, fl_net (fl_ww H (o + 6) (o + 8) A B) n g := fun A B => fl_net_fr dH rfl (fun b h1 h2 => fl_ww_lo (by omega) (by omega))
    have e65 := fc_65 (hgw (fl_hx g (fl_nv g lv pt hd 1) (fl_l h (o + 6)) k) (fl_hx g (fl_nv g lv pt hd 0) (fl_l h (o + 8)) k)) nn w (dw _ _) hk
    have sc : g 1 + (i + 1) = k + 1 := by omega
    rw [sc, fbC_115_165]
    by_cases c8 : g (4 + k) = 8
    · have wk := w.2.2.1 k (by omega) hk
      have w8 := wk.2.2.2.2.2.2.2.mp (by omega)
      have e := fc_113 (hgw (fl_hx g (fl_nv g lv pt hd 1) (fl_l h (o + 6)) k) (fl_hx g (fl_nv g lv pt hd 0) (fl_l h (o + 8)) k)) nn ss w (dw _ _) (show g 1 ≤ k by omega) hk lv ss.2.2.2.1 ss.2.2.2.2 (fun c => fl_lay g (fl_fa lv c) pt (hd c) (g 0)) (by
        intro i hi
        have h1 := w.2.2.2.2.1 (g (16 + k) + i) (by omega)
        rw [fl_ww_lo (by omega) (by omega), fl_ww_lo (by omega) (by omega)]
        exact ⟨H1 _ h1, H0 _ h1⟩)
      have gz : ∀ z, fl_B (fun c => decide (fl_gt g (fl_fa lv c) (fl_lay g (fl_fa lv c) pt (hd c) (g 0)) k = z)) = fl_nv g lv pt hd z k := fun z => fl_B_congr fun c _ => by
        rw [fl_gt_reg c8 w8 (fun j => fl_lay_le hp2 (hh c) _ j (Nat.le_refl _))]
      rw [gz 1, gz 0, fl_ww_la (by omega), fl_ww_a (by omega), fl_ww_lb, fl_ww_b, fl_hx_yes (by omega) c8, fl_hx_yes (by omega) c8] at e
      rw [if_pos c8] at e65
      clear w w1 d dH hr H1 H0 dw wk gz hp2 hh hp
      simp (disch := omega) only [fl_k_ww, fl_r_ww, fl_i_ww, hgH.1, hgH.2, nn.1, ss.1, ss.2.2.2.1, ss.2.2.2.2, d1, e65, fl_lit, fl_nadd, fl_nmul, fl_ndiv, fl_nsub, fl_msub, fl_nle, fl_nlt, fl_neq, fl_nclamp, fl_nin, fl_ltT, fl_ltF, fl_leT, fl_leF, fl_eqT, fl_eqF, decide_true, decide_false, Bool.true_and, Bool.and_true, Bool.false_and, Bool.and_false, if_true, if_false, Bool.false_eq_true, Option.isSome_some, Option.getD_some, not_true_eq_false, not_false_eq_true, Option.toList_some, Option.toList_none, List.cons_append, List.nil_append, fbP_115_180, e, fbP_115_199, fbC_115_199]
    · rw [if_neg c8] at e65
      have n1 := fl_hx_no (A := fl_nv g lv pt hd 1) (old := fl_l h (o + 6)) c8
      have n0 := fl_hx_no (A := fl_nv g lv pt hd 0) (old := fl_l h (o + 8)) c8
      clear w w1 d dH hr H1 H0 dw hp2 hh hp
      rw [← n1, ← n0]
      simp (disch := omega) only [fl_k_ww, fl_r_ww, fl_i_ww, hgH.1, hgH.2, nn.1, d1, e65, fl_lit, fl_nadd, fl_nmul, fl_ndiv, fl_nsub, fl_msub, fl_nle, fl_nlt, fl_neq, fl_nclamp, fl_nin, fl_ltT, fl_ltF, fl_leT, fl_leF, fl_eqT, fl_eqF, decide_true, decide_false, Bool.true_and, Bool.and_true, Bool.false_and, Bool.and_false, if_true, if_false, Bool.false_eq_true, Option.isSome_some, Option.getD_some, not_true_eq_false, not_false_eq_true, Option.toList_some, Option.toList_none, List.cons_append, List.nil_append, fbP_115_180, fbC_115_199])
  have e1 : H = fl_ww H (o + 6) (o + 8) (fl_hx g (fl_nv g lv pt hd 1) (fl_l h (o + 6)) (g 1)) (fl_hx g (fl_nv g lv pt hd 0) (fl_l h (o + 8)) (g 1)) := (fl_ww_self (by rw [fl_hx_0, H6]) (by rw [fl_hx_0, H8]) (by omega)).symm
  have lp3 := (congrArg (fun z => fl_Rn fl_C 115 165 [some (.ref o), some (.ref n), none, some (.long (fl_B lv)), none, some (.int (Int32.ofNat (g 1)))] [] z) e1).trans lp2
  try dsimp only at lp3
  rw [show g 1 + (g 0 - g 1) = g 0 by omega] at lp3
  refine st.trans (lp3.trans ?_)
  clear w w1 d dH hr H1 H0 lp2 lp3 st hp2 hh hp
  rw [fbC_115_165]
  simp (disch := omega) only [fl_k_ww, fl_r_ww, fl_i_ww, hgH.1, hgH.2, nn.1, d1, fl_lit, fl_nadd, fl_nmul, fl_ndiv, fl_nsub, fl_msub, fl_nle, fl_nlt, fl_neq, fl_nclamp, fl_nin, fl_ltT, fl_ltF, fl_leT, fl_leF, fl_eqT, fl_eqF, decide_true, decide_false, Bool.true_and, Bool.and_true, Bool.false_and, Bool.and_false, if_true, if_false, Bool.false_eq_true, Option.isSome_some, Option.getD_some, not_true_eq_false, not_false_eq_true, Option.toList_some, Option.toList_none, List.cons_append, List.nil_append]
