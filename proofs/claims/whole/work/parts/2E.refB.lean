/-! THE REFERENCE: runs and runsAll -/
theorem fl_keep {q : Nat → Bool} {t : Nat} (h : q t = false ∨ fl_any q t = true) : fl_any q (t + 1) = fl_any q t ∧ fl_oi (fl_any q (t + 1)) (fl_frst q (t + 1)) = fl_oi (fl_any q t) (fl_frst q t) ∧ (fl_any q t = true → fl_frst q (t + 1) = fl_frst q t) := by
  rw [fl_any, fl_frst]
  rcases Bool.eq_false_or_eq_true (fl_any q t) with e | e
  · rw [e]; exact ⟨rfl, rfl, fun _ => rfl⟩
  · rcases h with h | h
    · rw [e, h]; exact ⟨rfl, rfl, fun z => by cases z⟩
    · rw [e] at h; cases h
theorem fr_140 {k0 : Nat → Nat × Nat} {h : fl_H} {g : Nat → Nat} (hg : fl_g k0 h) (m : fl_mm h g) (w : fl_wf g) {n : Nat} {ps : Nat → Nat} (l : fl_ls h n ps) (hp : fl_okp g ps n) (hgd : fl_gd h g n ps) {f : Nat} (hf : f < 64) : fl_to (fl_cl fl_C 140 [.ref 259, .int (Int32.ofNat f)] h) (fun r y => r = none ∧ fl_fx fl_SS h y ∧ fl_rf y g n ps f ∧ fl_oth h y f) := by
  have w1 : g 0 ≤ 12 := w.1.2.2.2.1
  have hA : fl_fx fl_SS h (fl_wi (fl_wi (fl_wi h 271 (fl_up (fl_i h 271) f (-Int32.ofNat 1))) 272 (fl_up (fl_i h 272) f (Int32.ofNat 0))) 273 (fl_up (fl_i h 273) f (-Int32.ofNat 1))) := fl_fx_wi (fl_fx_wi (fl_fx_wi fl_fx_rfl (by omega)) (by omega)) (by omega)
  have e132 := fr_132 (fl_g_fx hg hA) (fl_mm_fx m hA (by omega)) w
  have es : fl_cl fl_C 140 [.ref 259, .int (Int32.ofNat f)] h = fl_Rn fl_C 140 27 [some (.ref 259), some (.int (Int32.ofNat f)), some (.int (Int32.ofNat 0))] [] (fl_wi (fl_wi (fl_wi (fl_wi h 271 (fl_up (fl_i h 271) f (-Int32.ofNat 1))) 272 (fl_up (fl_i h 272) f (Int32.ofNat 0))) 273 (fl_up (fl_i h 273) f (-Int32.ofNat 1))) 267 (fl_ar (g 0) (fun k => g (40 + k)) (fl_i h 267))) := by
    rw [fbE_140]
    clear m w l hp hgd
    simp (disch := omega) only [fl_k_wl, fl_r_wl, fl_i_wl, fl_l_wl, fl_1_wl, fl_k_wi, fl_r_wi, fl_l_wi, fl_1_wi, fl_i_wi, fl_k_si, fl_r_si, fl_l_si, fl_k_sl, fl_r_sl, fl_i_sl, fl_up_self, fl_up_ne, fl_si_wi, fl_sl_wl, fl_wi_wi, fl_wl_wl] at e132
    simp (disch := omega) only [fl_k_wl, fl_r_wl, fl_i_wl, fl_l_wl, fl_1_wl, fl_k_wi, fl_r_wi, fl_l_wi, fl_1_wi, fl_i_wi, fl_k_si, fl_r_si, fl_l_si, fl_k_sl, fl_r_sl, fl_i_sl, fl_up_self, fl_up_ne, fl_si_wi, fl_sl_wl, fl_wi_wi, fl_wl_wl, hg.1, hg.2, fl_KM, fl_RM, fl_lit, fl_nadd, fl_nmul, fl_ndiv, fl_nsub, fl_msub, fl_nle, fl_nlt, fl_neq, fl_nclamp, fl_nin, fl_ltT, fl_ltF, fl_leT, fl_leF, fl_eqT, fl_eqF, decide_true, decide_false, Bool.true_and, Bool.and_true, Bool.false_and, Bool.and_false, if_true, if_false, Bool.false_eq_true, Option.isSome_some, Option.getD_some, not_true_eq_false, not_false_eq_true, Option.toList_some, Option.toList_none, List.cons_append, List.nil_append, fbC_140_7, fbC_140_14, fbC_140_21, e132, fbP_140_25]
  rw [es]
  have hB : fl_fx fl_SS h (fl_wi (fl_wi (fl_wi (fl_wi h 271 (fl_up (fl_i h 271) f (-Int32.ofNat 1))) 272 (fl_up (fl_i h 272) f (Int32.ofNat 0))) 273 (fl_up (fl_i h 273) f (-Int32.ofNat 1))) 267 (fl_ar (g 0) (fun k => g (40 + k)) (fl_i h 267))) := fl_fx_wi hA (by omega)
  refine fl_loopT (F := fun t x => fl_Rn fl_C 140 27 [some (.ref 259), some (.int (Int32.ofNat f)), some (.int (Int32.ofNat t))] [] x) (fun t x => fl_fx fl_SS h x ∧ fl_oth h x f ∧ fl_i x 271 f = fl_oi (fl_any (fl_shn g f ps) t) (fl_frst (fl_shn g f ps) t) ∧ fl_i x 272 f = (if fl_any (fl_shn g f ps) t = true then fl_sha g f ps (fl_frst (fl_shn g f ps) t) else Int32.ofNat 0) ∧ fl_i x 273 f = -Int32.ofNat 1 ∧ (∀ k, k < g 0 → fl_i x 267 k = Int32.ofNat (fl_hd g f ps t k)) ∧ (0 < t → ∀ k, k < g 0 → fl_i x 266 k = Int32.ofNat (fl_vl g f ps (t - 1) k)) ∧ fl_any (fl_dr g f ps) t = false) n ?_ ?_ 0 (fl_wi (fl_wi (fl_wi (fl_wi h 271 (fl_up (fl_i h 271) f (-Int32.ofNat 1))) 272 (fl_up (fl_i h 272) f (Int32.ofNat 0))) 273 (fl_up (fl_i h 273) f (-Int32.ofNat 1))) 267 (fl_ar (g 0) (fun k => g (40 + k)) (fl_i h 267))) (Nat.zero_le n) ⟨hB, ?_, ?_, ?_, ?_, ?_, ?_, rfl⟩
  · rintro x ⟨fx, ot, x1, x2, x3, hd, hv, hn⟩
    have hgx := fl_g_fx hg fx
    have lx := fl_ls_fx l fx (by omega) (by omega)
    have l1 := lx.1
    have l2 := lx.2.1
    have fin : fl_Rn fl_C 140 27 [some (.ref 259), some (.int (Int32.ofNat f)), some (.int (Int32.ofNat n))] [] x = fl_Rn fl_C 140 118 [some (.ref 259), some (.int (Int32.ofNat f))] [] x := by
      clear w m hd hp l lx hgd hv
      rw [fbC_140_27]
      simp (disch := omega) only [hgx.1, hgx.2, fl_KM, fl_RM, fl_lit, fl_nadd, fl_nmul, fl_ndiv, fl_nsub, fl_msub, fl_nle, fl_nlt, fl_neq, fl_nclamp, fl_nin, fl_ltT, fl_ltF, fl_leT, fl_leF, fl_eqT, fl_eqF, decide_true, decide_false, Bool.true_and, Bool.and_true, Bool.false_and, Bool.and_false, if_true, if_false, Bool.false_eq_true, Option.isSome_some, Option.getD_some, not_true_eq_false, not_false_eq_true, Option.toList_some, Option.toList_none, List.cons_append, List.nil_append, l2]
    show fl_to (fl_Rn fl_C 140 27 [some (.ref 259), some (.int (Int32.ofNat f)), some (.int (Int32.ofNat n))] [] x) _
    rw [fin]
    exact fr_140f hg m w l hgd hf fx ot x1 x2 (by rw [x3, hn]; rfl) (fun h0 _ => hv h0) (fun _ => hd)
  · rintro t x ht ⟨fx, ot, x1, x2, x3, hd, hv, hn⟩ hy
    have hgx := fl_g_fx hg fx
    have mx := fl_mm_fx m fx (by omega)
    have lx := fl_ls_fx l fx (by omega) (by omega)
    have l1 := lx.1
    have l2 := lx.2.1
    have l3 := lx.2.2 t ht
    have e137 := fr_137 hgx mx w (hp t ht).1 (hp t ht).2 f (fl_hd_le (f := f) w hp t (by omega)) (fun k hk _ => hd k hk)
    rw [fl_fi_lt hf] at e137
    have fx2 : fl_fx fl_SS h (fl_tk x g f (ps t) (fl_hd g f ps t)) := fl_fx_tr fx (fl_fx_mo fl_tk_fx (by omega))
    have e139 := fr_139 (fl_g_fx hg fx2) (fl_mm_fx m fx2 (by omega)) w (show t < 25 by omega) (a := fl_vl g 64 ps t) (b := fl_vl g f ps t) (fun k => fl_vl_le w hp ht k) (fun k => fl_vl_le w hp ht k) (fun k hk => by rw [fx2.2.2.2.2 269 (by omega)]; exact hgd.1 t ht k hk) (fun k hk => fl_tk_val hk)
    have z : (fl_sha g f ps t = Int32.ofNat 0) = (fl_shn g f ps t = false) := fl_bi_0 (q := fl_sq g (fl_vl g 64 ps t) (fl_vl g f ps t)) (ln := fun o => g (72 + o)) (n := g 3) (fun i hi => by
      have := w.2.2.2.2.2.1 i hi
      omega)
    rw [show fl_bi (fl_sq g (fl_vl g 64 ps t) (fl_vl g f ps t)) (fun o => g (72 + o)) (g 3) = fl_sha g f ps t from rfl] at e139
    have k2 : fl_k (fl_tk x g f (ps t) (fl_hd g f ps t)) = fl_k x := rfl
    have r2 : fl_r (fl_tk x g f (ps t) (fl_hd g f ps t)) = fl_r x := rfl
    have t271 : fl_i (fl_tk x g f (ps t) (fl_hd g f ps t)) 271 = fl_i x 271 := fl_tk_fx.2.2.2.2 271 (by omega)
    have t272 : fl_i (fl_tk x g f (ps t) (fl_hd g f ps t)) 272 = fl_i x 272 := fl_tk_fx.2.2.2.2 272 (by omega)
    have t273 : fl_i (fl_tk x g f (ps t) (fl_hd g f ps t)) 273 = fl_i x 273 := fl_tk_fx.2.2.2.2 273 (by omega)
    have t274 : fl_i (fl_tk x g f (ps t) (fl_hd g f ps t)) 274 = fl_i x 274 := fl_tk_fx.2.2.2.2 274 (by omega)
    have t275 : fl_i (fl_tk x g f (ps t) (fl_hd g f ps t)) 275 = fl_i x 275 := fl_tk_fx.2.2.2.2 275 (by omega)
    have t266 : ∀ k, k < g 0 → fl_i (fl_tk x g f (ps t) (fl_hd g f ps t)) 266 k = Int32.ofNat (fl_vl g f ps t k) := fun k hk => fl_tk_val hk
    have t267 : ∀ k, k < g 0 → fl_i (fl_tk x g f (ps t) (fl_hd g f ps t)) 267 k = Int32.ofNat (fl_hd g f ps (t + 1) k) := fun k hk => fl_tk_hold hk
    have mfl : fl_i (fl_tk x g f (ps t) (fl_hd g f ps t)) 262 (102 + t) = Int32.ofNat (g (102 + t)) := fl_mm_fx m fx2 (by omega) _ (by omega)
    have gfl := w.2.2.2.2.2.2.2.2.1 (102 + t) (by omega)
    have hgt : fl_g k0 (fl_tk x g f (ps t) (fl_hd g f ps t)) := fl_g_fx hg fx2
    have ott : fl_oth h (fl_tk x g f (ps t) (fl_hd g f ps t)) f := fl_oth_eq ot (fun j _ => by rw [t271]) (fun j _ => by rw [t272]) (fun j _ => by rw [t273]) t274 t275
    have frl := fl_frst_le (q := fl_shn g f ps) t
    have ole := fl_oi_le (b := fl_any (fl_shn g f ps) t) (t := fl_frst (fl_shn g f ps) t) (by omega)
    -- as far as 88
    have st1 : fl_Rn fl_C 140 27 [some (.ref 259), some (.int (Int32.ofNat f)), some (.int (Int32.ofNat t))] [] x = fl_ca fl_C 140 60 [some (.ref 259), some (.int (Int32.ofNat f)), some (.int (Int32.ofNat t))] [] [] (some (some (some (.int (fl_sha g f ps t))), fl_tk x g f (ps t) (fl_hd g f ps t))) := by
      have zz : (Int32.ofNat 0 ≤ -Int32.ofNat 1) = False := eq_false (by decide)
      clear w m mx hd hp l lx hy hgd hv t266 t267 ot ott z
      rw [fbC_140_27]
      simp (disch := omega) only [hgx.1, hgx.2, fl_KM, fl_RM, fl_lit, fl_nadd, fl_nmul, fl_ndiv, fl_nsub, fl_msub, fl_nle, fl_nlt, fl_neq, fl_nclamp, fl_nin, fl_ltT, fl_ltF, fl_leT, fl_leF, fl_eqT, fl_eqF, decide_true, decide_false, Bool.true_and, Bool.and_true, Bool.false_and, Bool.and_false, if_true, if_false, Bool.false_eq_true, Option.isSome_some, Option.getD_some, not_true_eq_false, not_false_eq_true, Option.toList_some, Option.toList_none, List.cons_append, List.nil_append, l2, l3, x3, zz, e137, fbP_140_55, k2, e139]
    show fl_to (fl_Rn fl_C 140 27 [some (.ref 259), some (.int (Int32.ofNat f)), some (.int (Int32.ofNat t))] [] x) _
    rw [st1]
    -- what a state behind the tick has to keep
    have next : ∀ y, fl_fx fl_SS h y → fl_oth h y f → fl_i y 271 f = fl_oi (fl_any (fl_shn g f ps) (t + 1)) (fl_frst (fl_shn g f ps) (t + 1)) → fl_i y 272 f = (if fl_any (fl_shn g f ps) (t + 1) = true then fl_sha g f ps (fl_frst (fl_shn g f ps) (t + 1)) else Int32.ofNat 0) → fl_i y 273 f = -Int32.ofNat 1 → fl_i y 266 = fl_i (fl_tk x g f (ps t) (fl_hd g f ps t)) 266 → fl_i y 267 = fl_i (fl_tk x g f (ps t) (fl_hd g f ps t)) 267 → fl_dr g f ps t = false → fl_to (fl_Rn fl_C 140 27 [some (.ref 259), some (.int (Int32.ofNat f)), some (.int (Int32.ofNat (t + 1)))] [] y) (fun r y => r = none ∧ fl_fx fl_SS h y ∧ fl_rf y g n ps f ∧ fl_oth h y f) := by
      intro y fy oy y1 y2 y3 y6 y7 yd
      exact hy y ⟨fy, oy, y1, y2, y3, fun k hk => by rw [y7]; exact t267 k hk, fun _ k hk => by rw [y6]; exact t266 k hk, by rw [fl_any, hn, yd]; rfl⟩
    -- dropped
    have drop : ∀ y, fl_fx fl_SS h y → fl_oth h y f → fl_i y 271 f = fl_oi (fl_any (fl_shn g f ps) (t + 1)) (fl_frst (fl_shn g f ps) (t + 1)) → fl_i y 272 f = (if fl_any (fl_shn g f ps) (t + 1) = true then fl_sha g f ps (fl_frst (fl_shn g f ps) (t + 1)) else Int32.ofNat 0) → fl_i y 273 f = Int32.ofNat t → fl_i y 266 = fl_i (fl_tk x g f (ps t) (fl_hd g f ps t)) 266 → fl_shn g f ps t = true → fl_dr g f ps t = true → fl_to (fl_Rn fl_C 140 27 [some (.ref 259), some (.int (Int32.ofNat f)), some (.int (Int32.ofNat (t + 1)))] [] y) (fun r y => r = none ∧ fl_fx fl_SS h y ∧ fl_rf y g n ps f ∧ fl_oth h y f) := by
      intro y fy oy y1 y2 y3 y6 ys yd
      have hgy := fl_g_fx hg fy
      have ly := fl_ls_fx l fy (by omega) (by omega)
      have ly2 := ly.2.1
      have fin : fl_Rn fl_C 140 27 [some (.ref 259), some (.int (Int32.ofNat f)), some (.int (Int32.ofNat (t + 1)))] [] y = fl_Rn fl_C 140 118 [some (.ref 259), some (.int (Int32.ofNat f))] [] y := by
        clear w m mx hd hp l lx hy hgd hv t266 t267 ot ott z next ly
        rw [fbC_140_27]
        by_cases c : n ≤ t + 1
        · simp (disch := omega) only [hgy.1, hgy.2, fl_KM, fl_RM, fl_lit, fl_nadd, fl_nmul, fl_ndiv, fl_nsub, fl_msub, fl_nle, fl_nlt, fl_neq, fl_nclamp, fl_nin, fl_ltT, fl_ltF, fl_leT, fl_leF, fl_eqT, fl_eqF, decide_true, decide_false, Bool.true_and, Bool.and_true, Bool.false_and, Bool.and_false, if_true, if_false, Bool.false_eq_true, Option.isSome_some, Option.getD_some, not_true_eq_false, not_false_eq_true, Option.toList_some, Option.toList_none, List.cons_append, List.nil_append, ly2]
        · simp (disch := omega) only [hgy.1, hgy.2, fl_KM, fl_RM, fl_lit, fl_nadd, fl_nmul, fl_ndiv, fl_nsub, fl_msub, fl_nle, fl_nlt, fl_neq, fl_nclamp, fl_nin, fl_ltT, fl_ltF, fl_leT, fl_leF, fl_eqT, fl_eqF, decide_true, decide_false, Bool.true_and, Bool.and_true, Bool.false_and, Bool.and_false, if_true, if_false, Bool.false_eq_true, Option.isSome_some, Option.getD_some, not_true_eq_false, not_false_eq_true, Option.toList_some, Option.toList_none, List.cons_append, List.nil_append, ly2, y3]
      have da := fl_frst_at hn yd ht
      have sa : fl_any (fl_shn g f ps) n = true := fl_any_iff.mpr ⟨t, ht, ys⟩
      have sb : fl_any (fl_shn g f ps) (t + 1) = true := fl_any_iff.mpr ⟨t, by omega, ys⟩
      have sp := fl_frst_sp sb
      have sc := fl_frst_at sp.2.2 sp.2.1 (show fl_frst (fl_shn g f ps) (t + 1) < n by omega)
      rw [fin]
      refine fr_140f hg m w l hgd hf fy oy (by rw [y1, sa, sb, sc.2]) (by rw [y2, sa, sb, sc.2]) (by rw [y3, da.1, da.2]; rfl) ?_ (fun z => by rw [da.1] at z; cases z)
      intro h0 haw k hk
      have : t = n - 1 := by
        unfold fl_aw at haw
        rw [da.1, da.2, Bool.true_and, decide_eq_false_iff_not] at haw
        omega
      rw [y6, ← this]
      exact t266 k hk
    have nd : ∀ q : fl_shn g f ps t = true → ¬ g (102 + t) = 1, fl_dr g f ps t = false := by
      intro q
      unfold fl_dr
      rcases Bool.eq_false_or_eq_true (fl_shn g f ps t) with e | e
      · rw [e, decide_eq_false (q e)]; rfl
      · rw [e]; rfl
    -- behind 88
    have st88 : fl_shn g f ps t = true → ∀ Y, fl_g k0 Y → fl_i Y 262 (102 + t) = Int32.ofNat (g (102 + t)) → fl_Rn fl_C 140 88 [some (.ref 259), some (.int (Int32.ofNat f)), some (.int (Int32.ofNat t)), some (.int (fl_sha g f ps t))] [] Y = if g (102 + t) = 1 then fl_Rn fl_C 140 27 [some (.ref 259), some (.int (Int32.ofNat f)), some (.int (Int32.ofNat (t + 1)))] [] (fl_wi Y 273 (fl_up (fl_i Y 273) f (Int32.ofNat t))) else fl_Rn fl_C 140 27 [some (.ref 259), some (.int (Int32.ofNat f)), some (.int (Int32.ofNat (t + 1)))] [] Y := by
      intro ys Y hY fY
      have zf : (fl_sha g f ps t = Int32.ofNat 0) = False := by rw [z, ys]; exact eq_false (by decide)
      clear w m mx hd hp l lx hy hgd hv t266 t267 ot ott z next drop nd
      rw [fbC_140_88]
      by_cases c : g (102 + t) = 1
      · simp (disch := omega) only [fl_k_wl, fl_r_wl, fl_i_wl, fl_l_wl, fl_1_wl, fl_k_wi, fl_r_wi, fl_l_wi, fl_1_wi, fl_i_wi, fl_k_si, fl_r_si, fl_l_si, fl_k_sl, fl_r_sl, fl_i_sl, fl_up_self, fl_up_ne, fl_si_wi, fl_sl_wl, fl_wi_wi, fl_wl_wl, hY.1, hY.2, fl_KM, fl_RM, fl_lit, fl_nadd, fl_nmul, fl_ndiv, fl_nsub, fl_msub, fl_nle, fl_nlt, fl_neq, fl_nclamp, fl_nin, fl_ltT, fl_ltF, fl_leT, fl_leF, fl_eqT, fl_eqF, decide_true, decide_false, Bool.true_and, Bool.and_true, Bool.false_and, Bool.and_false, if_true, if_false, Bool.false_eq_true, Option.isSome_some, Option.getD_some, not_true_eq_false, not_false_eq_true, Option.toList_some, Option.toList_none, List.cons_append, List.nil_append, zf, fbC_140_100, fY, fbC_140_112]
      · simp (disch := omega) only [fl_k_wl, fl_r_wl, fl_i_wl, fl_l_wl, fl_1_wl, fl_k_wi, fl_r_wi, fl_l_wi, fl_1_wi, fl_i_wi, fl_k_si, fl_r_si, fl_l_si, fl_k_sl, fl_r_sl, fl_i_sl, fl_up_self, fl_up_ne, fl_si_wi, fl_sl_wl, fl_wi_wi, fl_wl_wl, hY.1, hY.2, fl_KM, fl_RM, fl_lit, fl_nadd, fl_nmul, fl_ndiv, fl_nsub, fl_msub, fl_nle, fl_nlt, fl_neq, fl_nclamp, fl_nin, fl_ltT, fl_ltF, fl_leT, fl_leF, fl_eqT, fl_eqF, decide_true, decide_false, Bool.true_and, Bool.and_true, Bool.false_and, Bool.and_false, if_true, if_false, Bool.false_eq_true, Option.isSome_some, Option.getD_some, not_true_eq_false, not_false_eq_true, Option.toList_some, Option.toList_none, List.cons_append, List.nil_append, zf, fbC_140_100, fY, fbC_140_112]
    rcases Bool.eq_false_or_eq_true (fl_shn g f ps t) with ys | ys
    · have zf : (fl_sha g f ps t = Int32.ofNat 0) = False := by rw [z, ys]; exact eq_false (by decide)
      rcases Bool.eq_false_or_eq_true (fl_any (fl_shn g f ps) t) with ya | ya
      · have kp := fl_keep (q := fl_shn g f ps) (t := t) (Or.inr ya)
        have fin := st88 ys _ hgt mfl
        have ole' : (Int32.ofNat 0 ≤ fl_oi (fl_any (fl_shn g f ps) t) (fl_frst (fl_shn g f ps) t)) = True := by rw [ole]; exact eq_true ya
        have e : fl_ca fl_C 140 60 [some (.ref 259), some (.int (Int32.ofNat f)), some (.int (Int32.ofNat t))] [] [] (some (some (some (.int (fl_sha g f ps t))), fl_tk x g f (ps t) (fl_hd g f ps t))) = fl_Rn fl_C 140 88 [some (.ref 259), some (.int (Int32.ofNat f)), some (.int (Int32.ofNat t)), some (.int (fl_sha g f ps t))] [] (fl_tk x g f (ps t) (fl_hd g f ps t)) := by
          clear w m mx hd hp l lx hy hgd hv t266 t267 ot ott z next drop nd st88 fin kp
          rw [fbP_140_60]
          simp (disch := omega) only [hgt.1, hgt.2, fl_KM, fl_RM, fl_lit, fl_nadd, fl_nmul, fl_ndiv, fl_nsub, fl_msub, fl_nle, fl_nlt, fl_neq, fl_nclamp, fl_nin, fl_ltT, fl_ltF, fl_leT, fl_leF, fl_eqT, fl_eqF, decide_true, decide_false, Bool.true_and, Bool.and_true, Bool.false_and, Bool.and_false, if_true, if_false, Bool.false_eq_true, Option.isSome_some, Option.getD_some, not_true_eq_false, not_false_eq_true, Option.toList_some, Option.toList_none, List.cons_append, List.nil_append, zf, t271, x1, ole']
        rw [e, fin]
        by_cases c : g (102 + t) = 1
        · rw [if_pos c]
          refine drop _ (fl_fx_wi fx2 (by omega)) (fl_oth_eq ott (fun j _ => by rw [fl_i_wi, if_neg (by omega)]) (fun j _ => by rw [fl_i_wi, if_neg (by omega)]) (fun j hj => by rw [fl_i_wi, if_pos rfl, fl_up_ne hj]) (by rw [fl_i_wi, if_neg (by omega)]) (by rw [fl_i_wi, if_neg (by omega)])) ?_ ?_ (by rw [fl_i_wi, if_pos rfl, fl_up_self]) (by rw [fl_i_wi, if_neg (by omega)]) ys (by unfold fl_dr; rw [ys, c]; rfl)
          · rw [fl_i_wi, if_neg (by omega), t271, x1, kp.2.1]
          · rw [fl_i_wi, if_neg (by omega), t272, x2, kp.1, kp.2.2 ya]
        · rw [if_neg c]
          exact next _ fx2 ott (by rw [t271, x1, kp.2.1]) (by rw [t272, x2, kp.1, kp.2.2 ya]) (by rw [t273, x3]) rfl rfl (nd (fun _ => c))
      · have kp := fl_frst_at ya ys (show t < t + 1 by omega)
        have ole' : (Int32.ofNat 0 ≤ fl_oi (fl_any (fl_shn g f ps) t) (fl_frst (fl_shn g f ps) t)) = False := by rw [ole, ya]; exact eq_false (by decide)
        have e : fl_ca fl_C 140 60 [some (.ref 259), some (.int (Int32.ofNat f)), some (.int (Int32.ofNat t))] [] [] (some (some (some (.int (fl_sha g f ps t))), fl_tk x g f (ps t) (fl_hd g f ps t))) = fl_Rn fl_C 140 88 [some (.ref 259), some (.int (Int32.ofNat f)), some (.int (Int32.ofNat t)), some (.int (fl_sha g f ps t))] [] (fl_wi (fl_wi (fl_tk x g f (ps t) (fl_hd g f ps t)) 271 (fl_up (fl_i x 271) f (Int32.ofNat t))) 272 (fl_up (fl_i x 272) f (fl_sha g f ps t))) := by
          clear w m mx hd hp l lx hy hgd hv t266 t267 ot ott z next drop nd st88 kp
          rw [fbP_140_60]
          simp (disch := omega) only [fl_k_wl, fl_r_wl, fl_i_wl, fl_l_wl, fl_1_wl, fl_k_wi, fl_r_wi, fl_l_wi, fl_1_wi, fl_i_wi, fl_k_si, fl_r_si, fl_l_si, fl_k_sl, fl_r_sl, fl_i_sl, fl_up_self, fl_up_ne, fl_si_wi, fl_sl_wl, fl_wi_wi, fl_wl_wl, hgt.1, hgt.2, fl_KM, fl_RM, fl_lit, fl_nadd, fl_nmul, fl_ndiv, fl_nsub, fl_msub, fl_nle, fl_nlt, fl_neq, fl_nclamp, fl_nin, fl_ltT, fl_ltF, fl_leT, fl_leF, fl_eqT, fl_eqF, decide_true, decide_false, Bool.true_and, Bool.and_true, Bool.false_and, Bool.and_false, if_true, if_false, Bool.false_eq_true, Option.isSome_some, Option.getD_some, not_true_eq_false, not_false_eq_true, Option.toList_some, Option.toList_none, List.cons_append, List.nil_append, zf, t271, t272, x1, ole', fbC_140_81]
        have fy : fl_fx fl_SS h (fl_wi (fl_wi (fl_tk x g f (ps t) (fl_hd g f ps t)) 271 (fl_up (fl_i x 271) f (Int32.ofNat t))) 272 (fl_up (fl_i x 272) f (fl_sha g f ps t))) := fl_fx_wi (fl_fx_wi fx2 (by omega)) (by omega)
        have oy : fl_oth h (fl_wi (fl_wi (fl_tk x g f (ps t) (fl_hd g f ps t)) 271 (fl_up (fl_i x 271) f (Int32.ofNat t))) 272 (fl_up (fl_i x 272) f (fl_sha g f ps t))) f := fl_oth_eq ott (fun j hj => by rw [fl_i_wi, if_neg (by omega), fl_i_wi, if_pos rfl, fl_up_ne hj, t271]) (fun j hj => by rw [fl_i_wi, if_pos rfl, fl_up_ne hj, t272]) (fun j _ => by rw [fl_i_wi, if_neg (by omega), fl_i_wi, if_neg (by omega)]) (by rw [fl_i_wi, if_neg (by omega), fl_i_wi, if_neg (by omega)]) (by rw [fl_i_wi, if_neg (by omega), fl_i_wi, if_neg (by omega)])
        have y1 : fl_i (fl_wi (fl_wi (fl_tk x g f (ps t) (fl_hd g f ps t)) 271 (fl_up (fl_i x 271) f (Int32.ofNat t))) 272 (fl_up (fl_i x 272) f (fl_sha g f ps t))) 271 f = fl_oi (fl_any (fl_shn g f ps) (t + 1)) (fl_frst (fl_shn g f ps) (t + 1)) := by
          rw [fl_i_wi, if_neg (by omega), fl_i_wi, if_pos rfl, fl_up_self, kp.1, kp.2]; rfl
        have y2 : fl_i (fl_wi (fl_wi (fl_tk x g f (ps t) (fl_hd g f ps t)) 271 (fl_up (fl_i x 271) f (Int32.ofNat t))) 272 (fl_up (fl_i x 272) f (fl_sha g f ps t))) 272 f = (if fl_any (fl_shn g f ps) (t + 1) = true then fl_sha g f ps (fl_frst (fl_shn g f ps) (t + 1)) else Int32.ofNat 0) := by
          rw [fl_i_wi, if_pos rfl, fl_up_self, kp.1, kp.2, if_pos rfl]
        have fin := st88 ys _ (fl_g_fx hg fy) (fl_mm_fx m fy (by omega) _ (by omega))
        rw [e, fin]
        by_cases c : g (102 + t) = 1
        · rw [if_pos c]
          refine drop _ (fl_fx_wi fy (by omega)) (fl_oth_eq oy (fun j _ => by rw [fl_i_wi, if_neg (by omega)]) (fun j _ => by rw [fl_i_wi, if_neg (by omega)]) (fun j hj => by rw [fl_i_wi, if_pos rfl, fl_up_ne hj]) (by rw [fl_i_wi, if_neg (by omega)]) (by rw [fl_i_wi, if_neg (by omega)])) ?_ ?_ (by rw [fl_i_wi, if_pos rfl, fl_up_self]) (by rw [fl_i_wi, if_neg (by omega), fl_i_wi, if_neg (by omega), fl_i_wi, if_neg (by omega)]) ys (by unfold fl_dr; rw [ys, c]; rfl)
          · rw [fl_i_wi, if_neg (by omega)]; exact y1
          · rw [fl_i_wi, if_neg (by omega)]; exact y2
        · rw [if_neg c]
          exact next _ fy oy y1 y2 (by rw [fl_i_wi, if_neg (by omega), fl_i_wi, if_neg (by omega), t273, x3]) (by rw [fl_i_wi, if_neg (by omega), fl_i_wi, if_neg (by omega)]) (by rw [fl_i_wi, if_neg (by omega), fl_i_wi, if_neg (by omega)]) (nd (fun _ => c))
    · have kp := fl_keep (q := fl_shn g f ps) (t := t) (Or.inl ys)
      have zt : (fl_sha g f ps t = Int32.ofNat 0) = True := by rw [z]; exact eq_true ys
      have e : fl_ca fl_C 140 60 [some (.ref 259), some (.int (Int32.ofNat f)), some (.int (Int32.ofNat t))] [] [] (some (some (some (.int (fl_sha g f ps t))), fl_tk x g f (ps t) (fl_hd g f ps t))) = fl_Rn fl_C 140 27 [some (.ref 259), some (.int (Int32.ofNat f)), some (.int (Int32.ofNat (t + 1)))] [] (fl_tk x g f (ps t) (fl_hd g f ps t)) := by
        clear w m mx hd hp l lx hy hgd hv t266 t267 ot ott z next drop nd st88 kp
        rw [fbP_140_60]
        simp (disch := omega) only [hgt.1, hgt.2, fl_KM, fl_RM, fl_lit, fl_nadd, fl_nmul, fl_ndiv, fl_nsub, fl_msub, fl_nle, fl_nlt, fl_neq, fl_nclamp, fl_nin, fl_ltT, fl_ltF, fl_leT, fl_leF, fl_eqT, fl_eqF, decide_true, decide_false, Bool.true_and, Bool.and_true, Bool.false_and, Bool.and_false, if_true, if_false, Bool.false_eq_true, Option.isSome_some, Option.getD_some, not_true_eq_false, not_false_eq_true, Option.toList_some, Option.toList_none, List.cons_append, List.nil_append, zt, fbC_140_88, fbC_140_112]
      rw [e]
      refine next _ fx2 ott (by rw [t271, x1, kp.2.1]) ?_ (by rw [t273, x3]) rfl rfl (nd (fun z => by rw [ys] at z; cases z))
      rw [t272, x2, kp.1]
      rcases Bool.eq_false_or_eq_true (fl_any (fl_shn g f ps) t) with ya | ya
      · rw [ya, kp.2.2 ya]
      · rw [ya]; rfl
  · intro f' hf'
    refine ⟨?_, ?_, ?_, ?_, ?_⟩
    · rw [fl_i_wi, if_neg (by omega), fl_i_wi, if_neg (by omega), fl_i_wi, if_neg (by omega), fl_i_wi, if_pos rfl, fl_up_ne hf']
    · rw [fl_i_wi, if_neg (by omega), fl_i_wi, if_neg (by omega), fl_i_wi, if_pos rfl, fl_up_ne hf']
    · rw [fl_i_wi, if_neg (by omega), fl_i_wi, if_pos rfl, fl_up_ne hf']
    · intro k _; rw [fl_i_wi, if_neg (by omega), fl_i_wi, if_neg (by omega), fl_i_wi, if_neg (by omega), fl_i_wi, if_neg (by omega)]
    · intro k _; rw [fl_i_wi, if_neg (by omega), fl_i_wi, if_neg (by omega), fl_i_wi, if_neg (by omega), fl_i_wi, if_neg (by omega)]
  · rw [fl_i_wi, if_neg (by omega), fl_i_wi, if_neg (by omega), fl_i_wi, if_neg (by omega), fl_i_wi, if_pos rfl, fl_up_self]; rfl
  · rw [fl_i_wi, if_neg (by omega), fl_i_wi, if_neg (by omega), fl_i_wi, if_pos rfl, fl_up_self]; rfl
  · rw [fl_i_wi, if_neg (by omega), fl_i_wi, if_pos rfl, fl_up_self]
  · intro k hk
    rw [fl_i_wi, if_pos rfl, fl_ar_lt hk]; rfl
  · intro z; omega
