/-! THE REFERENCE: the good run, what shows -/
theorem fr_138 {k0 : Nat → Nat × Nat} {h : fl_H} {g : Nat → Nat} (hg : fl_g k0 h) (m : fl_mm h g) (w : fl_wf g) {n : Nat} {ps : Nat → Nat} (l : fl_ls h n ps) (hp : fl_okp g ps n) : fl_to (fl_cl fl_C 138 [.ref 259] h) (fun r h' => r = none ∧ fl_fx (fun b => b = 266 ∨ b = 267 ∨ b = 269 ∨ b = 270) h h' ∧ fl_gd h' g n ps) := by
  have w1 : g 0 ≤ 12 := w.1.2.2.2.1
  have e1 : fl_cl fl_C 138 [.ref 259] h = fl_Rn fl_C 138 6 [some (.ref 259), some (.int (Int32.ofNat 0))] [] (fl_wi h 267 (fl_ar (g 0) (fun k => g (40 + k)) (fl_i h 267))) := by
    rw [fbE_138, fr_132 hg m w, fbP_138_4]
    simp (disch := omega) only [hg.1, fl_KM, fl_RM, fl_lit, fl_nadd, fl_nmul, fl_ndiv, fl_nsub, fl_msub, fl_nle, fl_nlt, fl_neq, fl_nclamp, fl_nin, fl_ltT, fl_ltF, fl_leT, fl_leF, fl_eqT, fl_eqF, decide_true, decide_false, Bool.true_and, Bool.and_true, Bool.false_and, Bool.and_false, if_true, if_false, Bool.false_eq_true, Option.isSome_some, Option.getD_some, not_true_eq_false, not_false_eq_true, Option.toList_some, Option.toList_none, List.cons_append, List.nil_append]
  rw [e1]
  refine fl_loopT (F := fun t x => fl_Rn fl_C 138 6 [some (.ref 259), some (.int (Int32.ofNat t))] [] x) (fun t x => fl_fx (fun b => b = 266 ∨ b = 267 ∨ b = 269) h x ∧ (∀ t', t' < t → ∀ k, k < g 0 → fl_i x 269 (12 * t' + k) = Int32.ofNat (fl_vl g 64 ps t' k)) ∧ ∀ k, k < g 0 → fl_i x 267 k = Int32.ofNat (fl_hd g 64 ps t k)) n ?_ ?_ 0 (fl_wi h 267 (fl_ar (g 0) (fun k => g (40 + k)) (fl_i h 267))) (Nat.zero_le n) ⟨fl_fx_wi fl_fx_rfl (Or.inr (Or.inl rfl)), fun t' ht' => by omega, fun k hk => by rw [fl_i_wi, if_pos rfl, fl_ar_lt hk]; rfl⟩
  · rintro x ⟨fx, hv, hd⟩
    have hgx := fl_g_fx hg fx
    have mx := fl_mm_fx m fx (by omega)
    have lx := fl_ls_fx l fx (by omega) (by omega)
    have lp := fl_iter (fun k => fl_Rn fl_C 138 66 [some (.ref 259), some (.int (Int32.ofNat k))] [] (fl_wi x 270 (fl_al k (fl_i x 267) (fl_i x 270)))) (g 0) (by
      intro k hk
      try dsimp only
      have hg' : fl_g k0 (fl_wi x 270 (fl_al k (fl_i x 267) (fl_i x 270))) := hgx
      have m' : fl_mm (fl_wi x 270 (fl_al k (fl_i x 267) (fl_i x 270))) g := mx
      have e95 := fr_95 hg' m'
      have e : fl_up (fl_al k (fl_i x 267) (fl_i x 270)) k (fl_i x 267 k) = fl_al (k + 1) (fl_i x 267) (fl_i x 270) := fl_al_succ rfl
      clear w m m' mx hv hd hp l lx
      rw [fbC_138_66, e95, fbP_138_71]
      simp (disch := omega) only [fl_k_wl, fl_r_wl, fl_i_wl, fl_l_wl, fl_1_wl, fl_k_wi, fl_r_wi, fl_l_wi, fl_1_wi, fl_i_wi, fl_k_si, fl_r_si, fl_l_si, fl_k_sl, fl_r_sl, fl_i_sl, fl_up_self, fl_up_ne, fl_si_wi, fl_sl_wl, fl_wi_wi, fl_wl_wl, hgx.1, hgx.2, fl_KM, fl_RM, fl_lit, fl_nadd, fl_nmul, fl_ndiv, fl_nsub, fl_msub, fl_nle, fl_nlt, fl_neq, fl_nclamp, fl_nin, fl_ltT, fl_ltF, fl_leT, fl_leF, fl_eqT, fl_eqF, decide_true, decide_false, Bool.true_and, Bool.and_true, Bool.false_and, Bool.and_false, if_true, if_false, Bool.false_eq_true, Option.isSome_some, Option.getD_some, not_true_eq_false, not_false_eq_true, Option.toList_some, Option.toList_none, List.cons_append, List.nil_append, fbC_138_85, fbC_138_86, fl_si_wi, fl_wi_wi, e])
    have e0 : x = fl_wi x 270 (fl_al 0 (fl_i x 267) (fl_i x 270)) := (fl_wi_self fl_al_0).symm
    have lp' := (congrArg (fun x => fl_Rn fl_C 138 66 [some (.ref 259), some (.int (Int32.ofNat 0))] [] x) e0).trans lp
    have hg' : fl_g k0 (fl_wi x 270 (fl_al (g 0) (fl_i x 267) (fl_i x 270))) := hgx
    have m' : fl_mm (fl_wi x 270 (fl_al (g 0) (fl_i x 267) (fl_i x 270))) g := mx
    have e95 := fr_95 hg' m'
    have l1 := lx.1
    have l2 := lx.2.1
    have fin : fl_Rn fl_C 138 6 [some (.ref 259), some (.int (Int32.ofNat n))] [] x = some (some none, fl_wi x 270 (fl_al (g 0) (fl_i x 267) (fl_i x 270))) := by
      clear w m m' mx hv hd hp l lx lp
      rw [fbC_138_6]
      simp (disch := omega) only [hgx.1, hgx.2, fl_KM, fl_RM, fl_lit, fl_nadd, fl_nmul, fl_ndiv, fl_nsub, fl_msub, fl_nle, fl_nlt, fl_neq, fl_nclamp, fl_nin, fl_ltT, fl_ltF, fl_leT, fl_leF, fl_eqT, fl_eqF, decide_true, decide_false, Bool.true_and, Bool.and_true, Bool.false_and, Bool.and_false, if_true, if_false, Bool.false_eq_true, Option.isSome_some, Option.getD_some, not_true_eq_false, not_false_eq_true, Option.toList_some, Option.toList_none, List.cons_append, List.nil_append, l2]
      refine lp'.trans ?_
      try dsimp only
      rw [fbC_138_66, e95, fbP_138_71]
      simp (disch := omega) only [fl_k_wl, fl_r_wl, fl_i_wl, fl_l_wl, fl_1_wl, fl_k_wi, fl_r_wi, fl_l_wi, fl_1_wi, fl_i_wi, fl_k_si, fl_r_si, fl_l_si, fl_k_sl, fl_r_sl, fl_i_sl, fl_up_self, fl_up_ne, fl_si_wi, fl_sl_wl, fl_wi_wi, fl_wl_wl, hgx.1, hgx.2, fl_KM, fl_RM, fl_lit, fl_nadd, fl_nmul, fl_ndiv, fl_nsub, fl_msub, fl_nle, fl_nlt, fl_neq, fl_nclamp, fl_nin, fl_ltT, fl_ltF, fl_leT, fl_leF, fl_eqT, fl_eqF, decide_true, decide_false, Bool.true_and, Bool.and_true, Bool.false_and, Bool.and_false, if_true, if_false, Bool.false_eq_true, Option.isSome_some, Option.getD_some, not_true_eq_false, not_false_eq_true, Option.toList_some, Option.toList_none, List.cons_append, List.nil_append]
    rw [fin]
    refine fl_to_mk ⟨rfl, fl_fx_wi (fl_fx_mo fx (by omega)) (Or.inr (Or.inr (Or.inr rfl))), ?_, ?_⟩
    · intro t ht k hk
      rw [fl_i_wi, if_neg (by omega)]
      exact hv t ht k hk
    · intro k hk
      rw [fl_i_wi, if_pos rfl, fl_al_lt hk]
      exact hd k hk
  · rintro t x ht ⟨fx, hv, hd⟩ hy
    have hgx := fl_g_fx hg fx
    have mx := fl_mm_fx m fx (by omega)
    have lx := fl_ls_fx l fx (by omega) (by omega)
    have l1 := lx.1
    have l2 := lx.2.1
    have l3 := lx.2.2 t ht
    have e137 := fr_137 hgx mx w (hp t ht).1 (hp t ht).2 64 (fl_hd_le (f := 64) w hp t (by omega)) (fun k hk _ => hd k hk)
    rw [show fl_fi 64 = -Int32.ofNat 1 from rfl] at e137
    have fx2 : fl_fx (fun b => b = 266 ∨ b = 267 ∨ b = 269) h (fl_tk x g 64 (ps t) (fl_hd g 64 ps t)) := fl_fx_tr fx (fl_fx_mo fl_tk_fx (by omega))
    have er := fr_138r (fl_g_fx hg fx2) (fl_mm_fx m fx2 (by omega)) w (show t < 24 by omega)
    have fin : fl_Rn fl_C 138 6 [some (.ref 259), some (.int (Int32.ofNat t))] [] x = fl_Rn fl_C 138 6 [some (.ref 259), some (.int (Int32.ofNat (t + 1)))] [] (fl_wi (fl_tk x g 64 (ps t) (fl_hd g 64 ps t)) 269 (fl_seg (12 * t) (g 0) (fl_i (fl_tk x g 64 (ps t) (fl_hd g 64 ps t)) 266) (fl_i (fl_tk x g 64 (ps t) (fl_hd g 64 ps t)) 269))) := by
      clear w m mx hv hd hp l lx hy
      rw [fbC_138_6]
      simp (disch := omega) only [hgx.1, hgx.2, fl_KM, fl_RM, fl_lit, fl_nadd, fl_nmul, fl_ndiv, fl_nsub, fl_msub, fl_nle, fl_nlt, fl_neq, fl_nclamp, fl_nin, fl_ltT, fl_ltF, fl_leT, fl_leF, fl_eqT, fl_eqF, decide_true, decide_false, Bool.true_and, Bool.and_true, Bool.false_and, Bool.and_false, if_true, if_false, Bool.false_eq_true, Option.isSome_some, Option.getD_some, not_true_eq_false, not_false_eq_true, Option.toList_some, Option.toList_none, List.cons_append, List.nil_append, l2, l3, e137, fbP_138_25, er]
    rw [fin]
    refine hy _ ⟨fl_fx_wi fx2 (Or.inr (Or.inr rfl)), ?_, ?_⟩
    · intro t' ht' k hk
      rw [fl_i_wi, if_pos rfl]
      by_cases e : t' = t
      · subst e
        rw [fl_seg_in hk, fl_tk_val hk]
        rfl
      · rw [fl_seg_out (by omega), fl_tk_fx.2.2.2.2 269 (by omega)]
        exact hv t' (by omega) k hk
    · intro k hk
      rw [fl_i_wi, if_neg (by omega), fl_tk_hold hk]
      rfl
/-- the outputs at which what is laid shows -/
theorem fr_139 {k0 : Nat → Nat × Nat} {h : fl_H} {g : Nat → Nat} (hg : fl_g k0 h) (m : fl_mm h g) (w : fl_wf g) {t : Nat} (ht : t < 25) {a b : Nat → Nat} (ha : ∀ k, a k ≤ 2) (hb : ∀ k, b k ≤ 2) (hag : ∀ k, k < g 0 → fl_i h 269 (12 * t + k) = Int32.ofNat (a k)) (hbv : ∀ k, k < g 0 → fl_i h 266 k = Int32.ofNat (b k)) : fl_cl fl_C 139 [.ref 259, .int (Int32.ofNat t)] h = some (some (some (.int (fl_bi (fl_sq g a b) (fun o => g (72 + o)) (g 3)))), h) := by
  have w1 : g 0 ≤ 12 := w.1.2.2.2.1
  have w3 : g 3 ≤ 4 := w.1.2.2.2.2.2.2.1
  have lp := fl_iter (fun o => fl_Rn fl_C 139 4 [some (.ref 259), some (.int (Int32.ofNat t)), some (.int (fl_bi (fl_sq g a b) (fun o => g (72 + o)) o)), some (.int (Int32.ofNat o))] [] h) (g 3) (by
    intro o ho
    try dsimp only
    have r := w.2.2.2.2.2.1 o ho
    have e1 := hag _ r
    have e2 := hbv _ r
    have a2 := ha (g (72 + o))
    have b2 := hb (g (72 + o))
    clear hag hbv ha hb w
    have mo := m (72 + o) (by omega)
    have m3 := m 3 (by omega)
    clear m
    rw [fbC_139_4]
    simp (disch := omega) only [hg.1, hg.2, fl_KM, fl_RM, fl_lit, fl_nadd, fl_nmul, fl_ndiv, fl_nsub, fl_msub, fl_nle, fl_nlt, fl_neq, fl_nclamp, fl_nin, fl_ltT, fl_ltF, fl_leT, fl_leF, fl_eqT, fl_eqF, decide_true, decide_false, Bool.true_and, Bool.and_true, Bool.false_and, Bool.and_false, if_true, if_false, Bool.false_eq_true, Option.isSome_some, Option.getD_some, not_true_eq_false, not_false_eq_true, Option.toList_some, Option.toList_none, List.cons_append, List.nil_append, m3, mo, fbC_139_22, fbC_139_36, e1, e2, fl_bi, fl_sq]
    by_cases c1 : a (g (72 + o)) = 2
    · simp [c1]
    · by_cases c2 : b (g (72 + o)) = 2
      · simp [c1, c2]
      · by_cases c3 : a (g (72 + o)) = b (g (72 + o))
        · simp [c2, c3]
        · simp [c1, c2, c3])
  rw [fbE_139]
  refine lp.trans ?_
  try dsimp only
  have m3 := m 3 (by omega)
  clear m w lp hag hbv ha hb
  rw [fbC_139_4]
  simp (disch := omega) only [hg.1, hg.2, fl_KM, fl_RM, fl_lit, fl_nadd, fl_nmul, fl_ndiv, fl_nsub, fl_msub, fl_nle, fl_nlt, fl_neq, fl_nclamp, fl_nin, fl_ltT, fl_ltF, fl_leT, fl_leF, fl_eqT, fl_eqF, decide_true, decide_false, Bool.true_and, Bool.and_true, Bool.false_and, Bool.and_false, if_true, if_false, Bool.false_eq_true, Option.isSome_some, Option.getD_some, not_true_eq_false, not_false_eq_true, Option.toList_some, Option.toList_none, List.cons_append, List.nil_append, m3]
