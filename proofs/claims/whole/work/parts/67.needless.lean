/-! needless, shorter: the reference's side of some ticks alone -/
section
variable {k0 : Nat → Nat × Nat} {h : fl_H} {g : Nat → Nat} {c : Nat × Nat × Nat × Bool}
abbrev fl_S3 (q j : Nat) : Prop := (q = 259 ∧ j = 16) ∨ q = 268
theorem fr_231 (hg : fl_g k0 h) (m : fl_mm h g) (w : fl_wf g) (A : Int32) : fl_to (fl_cl fl_C 231 [.ref 259, .int A] h) (fun v y => v = none ∧ fl_df fl_S3 h y ∧ fl_ls y (fl_cnt (fun t => !fl_hi A t) (g 76)) (fl_kp (fun t => !fl_hi A t) (fl_ps g) (g 76))) := by
  have w7 : g 76 ≤ 24 := w.1.2.2.2.2.2.2.2.1
  have st : fl_cl fl_C 231 [.ref 259, .int A] h = fl_Rn fl_C 231 7 [some (.ref 259), some (.int A), some (.int (Int32.ofNat 0))] [] (fl_wi h 259 (fl_up (fl_i h 259) 16 (Int32.ofNat 0))) := by
    clear m w
    rw [fbE_231]
    simp (disch := omega) only [fl_k_wl, fl_r_wl, fl_i_wl, fl_l_wl, fl_1_wl, fl_k_wi, fl_r_wi, fl_l_wi, fl_1_wi, fl_i_wi, fl_k_si, fl_r_si, fl_l_si, fl_k_sl, fl_r_sl, fl_i_sl, fl_up_self, fl_up_ne, fl_si_wi, fl_sl_wl, fl_wi_wi, fl_wl_wl, hg.1, fl_KM, fl_RM, fl_lit, fl_nadd, fl_nmul, fl_ndiv, fl_nsub, fl_msub, fl_nle, fl_nlt, fl_neq, fl_nclamp, fl_nin, fl_ltT, fl_ltF, fl_leT, fl_leF, fl_eqT, fl_eqF, decide_true, decide_false, Bool.true_and, Bool.and_true, Bool.false_and, Bool.and_false, if_true, if_false, Bool.false_eq_true, Option.isSome_some, Option.getD_some, not_true_eq_false, not_false_eq_true, Option.toList_some, Option.toList_none, List.cons_append, List.nil_append, fbC_231_5]
  rw [st]
  refine fl_loopT (F := fun t x => fl_Rn fl_C 231 7 [some (.ref 259), some (.int A), some (.int (Int32.ofNat t))] [] x) (fun t x => fl_df fl_S3 h x ∧ fl_i x 259 16 = Int32.ofNat (fl_cnt (fun t => !fl_hi A t) t) ∧ ∀ i, i < fl_cnt (fun t => !fl_hi A t) t → fl_i x 268 i = Int32.ofNat (fl_kp (fun t => !fl_hi A t) (fl_ps g) t i)) (g 76) ?_ ?_ 0 _ (Nat.zero_le _) ⟨fl_df_wiu fl_df_rfl (Or.inl ⟨rfl, rfl⟩), by rw [fl_i_wi, if_pos rfl, fl_up_self]; rfl, fun i hi => absurd hi (Nat.not_lt_zero i)⟩
  · rintro x ⟨dx, lx, px⟩
    have gx := fl_df_g hg dx
    have e130 := fr_130h gx
    rw [(dx.2.2.2 262 76 (by omega)).1, m 76 (by omega)] at e130
    have fin : fl_Rn fl_C 231 7 [some (.ref 259), some (.int A), some (.int (Int32.ofNat (g 76)))] [] x = some (some none, x) := by
      clear m w dx px lx st
      rw [fbC_231_7]
      simp (disch := omega) only [gx.1, fl_KM, fl_RM, fl_lit, fl_nadd, fl_nmul, fl_ndiv, fl_nsub, fl_msub, fl_nle, fl_nlt, fl_neq, fl_nclamp, fl_nin, fl_ltT, fl_ltF, fl_leT, fl_leF, fl_eqT, fl_eqF, decide_true, decide_false, Bool.true_and, Bool.and_true, Bool.false_and, Bool.and_false, if_true, if_false, Bool.false_eq_true, Option.isSome_some, Option.getD_some, not_true_eq_false, not_false_eq_true, Option.toList_some, Option.toList_none, List.cons_append, List.nil_append, e130, fbP_231_12]
    have cl := fl_cnt_le (q := fun t => !fl_hi A t) (g 76)
    exact ⟨_, _, fin, rfl, dx, by omega, lx, px⟩
  · rintro t x ht ⟨dx, lx, px⟩ hy
    have gx := fl_df_g hg dx
    have e130 := fr_130h gx
    rw [(dx.2.2.2 262 76 (by omega)).1, m 76 (by omega)] at e130
    have sar := fl_hi_sar (f := t) (by omega) A
    have cl := fl_cnt_le (q := fun t => !fl_hi A t) t
    cases c : fl_hi A t with
    | true =>
      rw [c, if_pos rfl] at sar
      have fin : fl_Rn fl_C 231 7 [some (.ref 259), some (.int A), some (.int (Int32.ofNat t))] [] x = fl_Rn fl_C 231 7 [some (.ref 259), some (.int A), some (.int (Int32.ofNat (t + 1)))] [] x := by
        clear m w dx px lx st hy
        rw [fbC_231_7]
        simp (disch := omega) only [gx.1, fl_KM, fl_RM, fl_lit, fl_nadd, fl_nmul, fl_ndiv, fl_nsub, fl_msub, fl_nle, fl_nlt, fl_neq, fl_nclamp, fl_nin, fl_ltT, fl_ltF, fl_leT, fl_leF, fl_eqT, fl_eqF, decide_true, decide_false, Bool.true_and, Bool.and_true, Bool.false_and, Bool.and_false, if_true, if_false, Bool.false_eq_true, Option.isSome_some, Option.getD_some, not_true_eq_false, not_false_eq_true, Option.toList_some, Option.toList_none, List.cons_append, List.nil_append, e130, fbP_231_12, sar, fbC_231_51]
      have ck : fl_cnt (fun t => !fl_hi A t) (t + 1) = fl_cnt (fun t => !fl_hi A t) t := by rw [fl_cnt, c]; rfl
      have kk : fl_kp (fun t => !fl_hi A t) (fl_ps g) (t + 1) = fl_kp (fun t => !fl_hi A t) (fl_ps g) t := by rw [fl_kp, c]; rfl
      rw [fin]
      exact hy x ⟨dx, by rw [ck]; exact lx, by rw [ck, kk]; exact px⟩
    | false =>
      rw [c, if_neg (by decide)] at sar
      have mt : fl_i x 262 (78 + t) = Int32.ofNat (fl_ps g t) := by rw [(dx.2.2.2 262 (78 + t) (by omega)).1]; exact m (78 + t) (by omega)
      have ck : fl_cnt (fun t => !fl_hi A t) (t + 1) = fl_cnt (fun t => !fl_hi A t) t + 1 := by rw [fl_cnt, c]; rfl
      have kk : fl_kp (fun t => !fl_hi A t) (fl_ps g) (t + 1) = fl_up (fl_kp (fun t => !fl_hi A t) (fl_ps g) t) (fl_cnt (fun t => !fl_hi A t) t) (fl_ps g t) := by rw [fl_kp, c]; rfl
      rw [ck, kk] at hy
      clear ck kk
      generalize fl_kp (fun t => !fl_hi A t) (fl_ps g) t = kp at *
      generalize fl_cnt (fun t => !fl_hi A t) t = N at *
      have fin : fl_Rn fl_C 231 7 [some (.ref 259), some (.int A), some (.int (Int32.ofNat t))] [] x = fl_Rn fl_C 231 7 [some (.ref 259), some (.int A), some (.int (Int32.ofNat (t + 1)))] [] (fl_wi (fl_wi x 268 (fl_up (fl_i x 268) N (Int32.ofNat (fl_ps g t)))) 259 (fl_up (fl_i x 259) 16 (Int32.ofNat (N + 1)))) := by
        clear m w dx px st hy
        rw [fbC_231_7]
        simp (disch := omega) only [fl_k_wl, fl_r_wl, fl_i_wl, fl_l_wl, fl_1_wl, fl_k_wi, fl_r_wi, fl_l_wi, fl_1_wi, fl_i_wi, fl_k_si, fl_r_si, fl_l_si, fl_k_sl, fl_r_sl, fl_i_sl, fl_up_self, fl_up_ne, fl_si_wi, fl_sl_wl, fl_wi_wi, fl_wl_wl, gx.1, gx.2, fl_KM, fl_RM, fl_lit, fl_nadd, fl_nmul, fl_ndiv, fl_nsub, fl_msub, fl_nle, fl_nlt, fl_neq, fl_nclamp, fl_nin, fl_ltT, fl_ltF, fl_leT, fl_leF, fl_eqT, fl_eqF, decide_true, decide_false, Bool.true_and, Bool.and_true, Bool.false_and, Bool.and_false, if_true, if_false, Bool.false_eq_true, Option.isSome_some, Option.getD_some, not_true_eq_false, not_false_eq_true, Option.toList_some, Option.toList_none, List.cons_append, List.nil_append, e130, fbP_231_12, sar, lx, fbC_231_39, mt, fbC_231_40, fbC_231_41, fbC_231_51]
      rw [fin]
      refine hy _ ⟨fl_df_wi (fl_df_wi dx (fun j z => absurd (Or.inr rfl) z)) (fun j z => by rw [fl_i_wi, if_neg (by omega), fl_up_ne (by omega)]), by rw [fl_i_wi, if_pos rfl, fl_up_self], fun i hi => ?_⟩
      rw [fl_i_wi, if_neg (by omega), fl_i_wi, if_pos rfl]
      by_cases e : i = N
      · subst e; rw [fl_up_self, fl_up_self]
      · rw [fl_up_ne e, fl_up_ne e]; exact px i (by omega)
theorem fr_234 (hg : fl_g k0 h) (m : fl_mm h g) (w : fl_wf g) (A : Int32) : ∃ y, fl_df fl_scr h y ∧ fl_cl fl_C 234 [.ref 259, .int A, .long (fl_dt g)] h = some (some (some (.int (if fl_en g (fun t => !fl_hi A t) = true then Int32.ofNat 1 else Int32.ofNat 0))), y) := by
  have w0 : g 0 ≤ 12 := w.1.2.2.2.1
  have w2 : g 2 ≤ 20 := w.1.2.2.2.2.1
  have ok : fl_okp g (fl_kp (fun t => !fl_hi A t) (fl_ps g) (g 76)) (fl_cnt (fun t => !fl_hi A t) (g 76)) := fl_kp_ok (K := fun t => !fl_hi A t) (fl_okp_g w) (g 76) (Nat.le_refl _)
  obtain ⟨v, x, e231, rfl, dx, lx⟩ := fr_231 hg m w A
  have gx := fl_df_g hg dx
  have mx : fl_mm x g := fun j hj => by rw [(dx.2.2.2 262 j (by omega)).1]; exact m j hj
  obtain ⟨v, y, e233, rfl, fy⟩ := fr_233 gx mx w lx ok
  refine ⟨y, fl_df_tr (fl_df_mo dx (fun q j z => by
    rcases z with z | z
    · exact Or.inr (by omega)
    · exact Or.inl (by omega))) (fl_df_fx fy (fun q j z => Or.inl (by omega))), ?_⟩
  have eX : (fl_dt g &&& (fl_bs (fun f => fl_any (fl_shn g f (fl_kp (fun t => !fl_hi A t) (fl_ps g) (g 76))) (fl_cnt (fun t => !fl_hi A t) (g 76))) (2 * (g 0 + g 2)) ^^^ (-1))) = fl_mis g (fun t => !fl_hi A t) (g 76) := by
    rw [fl_bs_F (by omega), fl_B_not]
    unfold fl_dt fl_mis
    rw [fl_B_and]
    refine fl_B_congr fun c _ => ?_
    show ((fl_lvf g c && _) && !(fl_lvf g c && _)) = ((fl_lvf g c && _) && !_)
    cases fl_lvf g c
    · rfl
    · rfl
  clear lx ok mx m w
  rw [fbE_234]
  simp (disch := omega) only [hg.1, gx.1, fl_KM, fl_RM, fl_lit, fl_nadd, fl_nmul, fl_ndiv, fl_nsub, fl_msub, fl_nle, fl_nlt, fl_neq, fl_nclamp, fl_nin, fl_ltT, fl_ltF, fl_leT, fl_leF, fl_eqT, fl_eqF, decide_true, decide_false, Bool.true_and, Bool.and_true, Bool.false_and, Bool.and_false, if_true, if_false, Bool.false_eq_true, Option.isSome_some, Option.getD_some, not_true_eq_false, not_false_eq_true, Option.toList_some, Option.toList_none, List.cons_append, List.nil_append, e231, fbP_234_5, e233]
  rw [fbP_234_10, eX]
  unfold fl_en
  by_cases e : fl_mis g (fun t => !fl_hi A t) (g 76) = 0
  · rw [fl_ifn (fun z => z ((lg_cmp_eq _ 0).mpr e)), fl_ifd e]; rfl
  · rw [fl_ifd (show ¬ lg_cmp (fl_mis g (fun t => !fl_hi A t) (g 76)) 0 = 0 from fun z => e ((lg_cmp_eq _ 0).mp z)), fl_ifn e]; rfl
/-- all ticks, one alone -/
def fl_evy (n : Nat) : Int32 := (Int32.ofNat 1 <<< (Int32.ofNat n &&& Int32.ofNat 31)) - Int32.ofNat 1
theorem fl_hi_evy : ∀ n, n < 25 → ∀ c, c < 32 → fl_hi (fl_evy n) c = decide (c < n) := by decide +kernel
def fl_bt1 (t : Nat) : Int32 := Int32.ofNat 1 <<< (Int32.ofNat t &&& Int32.ofNat 31)
theorem fl_hi_not (x : Int32) {c : Nat} (hc : c < 32) : fl_hi (x ^^^ (-Int32.ofNat 1)) c = !fl_hi x c := by
  rw [fl_hi_xor, fl_hi_m1 c hc, Bool.xor_true]
def fl_ndq (g : Nat → Nat) (t : Nat) : Bool := fl_en g (fun i => !decide (i = t))
def fl_nds (g : Nat → Nat) : Int32 := fl_bi (fl_ndq g) (fun i => i) (g 76)
theorem fl_nds_31 {g : Nat → Nat} (w7 : g 76 ≤ 24) : fl_hi (fl_nds g) 31 = false := by
  unfold fl_nds
  rw [fl_hi_bi (by omega) (fun i hi => by omega)]
  exact fl_any_ff (fun i hi => by rw [decide_eq_false (show ¬ 31 = i by omega), Bool.and_false])
theorem fl_or0 (x : Int32) : x ||| Int32.ofNat 0 = x := by
  apply fl_hi_ext
  intro c hc
  rw [fl_hi_or, fl_hi_0 c hc, Bool.or_false]
theorem fo_needless_a {r : Int64} (hg : fl_g k0 h) (w : fl_wf g) (d : fl_rn h 27 g r) (e1 : fl_i h 4 1 = Int32.ofNat 6) : ∃ y, fl_df (fl_SB 183) h y ∧ fl_cl fl_C 230 [.ref 0] h = some (some (some (.int (Int32.ofNat (fl_cnt (fl_hi (fl_nds g)) 32)))), fl_ca1 y (Int32.toInt64 (fl_nds g))) := by
  have w7 : g 76 ≤ 24 := w.1.2.2.2.2.2.2.2.1
  have o27 : fl_KK k0 27 = (1, 7) := (fl_o27 (k0 := k0)).1.1
  have i3h := d.2.1.1
  have st : fl_cl fl_C 230 [.ref 0] h = fl_Rn fl_C 230 16 [some (.ref 0), some (.int (fl_evy (g 76))), some (.int (Int32.ofNat 0)), some (.int (Int32.ofNat 0))] [] h := by
    clear w d
    unfold fl_evy
    rw [fbE_230]
    simp (disch := omega) only [hg.1, hg.2, fl_KF, fl_RF, o27, fl_lit, fl_nadd, fl_nmul, fl_ndiv, fl_nsub, fl_msub, fl_nle, fl_nlt, fl_neq, fl_nclamp, fl_nin, fl_ltT, fl_ltF, fl_leT, fl_leF, fl_eqT, fl_eqF, decide_true, decide_false, Bool.true_and, Bool.and_true, Bool.false_and, Bool.and_false, if_true, if_false, Bool.false_eq_true, Option.isSome_some, Option.getD_some, not_true_eq_false, not_false_eq_true, Option.toList_some, Option.toList_none, List.cons_append, List.nil_append, i3h]
  rw [st]
  clear st
  suffices fl_to (fl_Rn fl_C 230 16 [some (.ref 0), some (.int (fl_evy (g 76))), some (.int (Int32.ofNat 0)), some (.int (Int32.ofNat 0))] [] h) (fun v z => v = some (.int (Int32.ofNat (fl_cnt (fl_hi (fl_nds g)) 32))) ∧ ∃ y, fl_df (fl_SB 183) h y ∧ z = fl_ca1 y (Int32.toInt64 (fl_nds g))) by
    obtain ⟨v, z, e, rfl, y, dy, rfl⟩ := this
    exact ⟨y, dy, e⟩
  refine fl_loopT (F := fun t x => fl_Rn fl_C 230 16 [some (.ref 0), some (.int (fl_evy (g 76))), some (.int (fl_bi (fl_ndq g) (fun i => i) t)), some (.int (Int32.ofNat t))] [] x) (fun t x => fl_df (fl_SB 183) h x) (g 76) ?_ ?_ 0 h (Nat.zero_le _) fl_df_rfl
  · intro x dx
    have gx := fl_df_g hg dx
    have i3 : fl_i x 27 3 = Int32.ofNat (g 76) := by rw [(dx.2.2.2 27 3 (by omega)).1]; exact i3h
    have x1 : fl_i x 4 1 = Int32.ofNat 6 := by rw [(dx.2.2.2 4 1 (by omega)).1]; exact e1
    have t1 := fc_ca1 gx x1 (Int32.toInt64 (fl_nds g))
    have b := fc_190 (h := fl_ca1 x (Int32.toInt64 (fl_nds g))) (fl_nds g)
    have fin : fl_Rn fl_C 230 16 [some (.ref 0), some (.int (fl_evy (g 76))), some (.int (fl_nds g)), some (.int (Int32.ofNat (g 76)))] [] x = some (some (some (.int (Int32.ofNat (fl_cnt (fl_hi (fl_nds g)) 32)))), fl_ca1 x (Int32.toInt64 (fl_nds g))) := by
      clear w d dx
      generalize fl_ca1 x (Int32.toInt64 (fl_nds g)) = H1 at *
      rw [fbC_230_16]
      simp (disch := omega) only [gx.1, gx.2, fl_KF, fl_RF, o27, fl_lit, fl_nadd, fl_nmul, fl_ndiv, fl_nsub, fl_msub, fl_nle, fl_nlt, fl_neq, fl_nclamp, fl_nin, fl_ltT, fl_ltF, fl_leT, fl_leF, fl_eqT, fl_eqF, decide_true, decide_false, Bool.true_and, Bool.and_true, Bool.false_and, Bool.and_false, if_true, if_false, Bool.false_eq_true, Option.isSome_some, Option.getD_some, not_true_eq_false, not_false_eq_true, Option.toList_some, Option.toList_none, List.cons_append, List.nil_append, i3, t1, fbP_230_59, b, fbP_230_63]
    exact ⟨_, _, fin, rfl, x, dx, rfl⟩
  · intro t x ht dx hy
    have gx := fl_df_g hg dx
    have i3 : fl_i x 27 3 = Int32.ofNat (g 76) := by rw [(dx.2.2.2 27 3 (by omega)).1]; exact i3h
    obtain ⟨y, dy, e229⟩ := fc_229 gx w (fl_rn_fr d (fun q z1 z2 => ⟨fl_df_i dx (fun j => by omega), fl_df_l dx (fun j => by omega)⟩)) (fl_evy (g 76) &&& (fl_bt1 t ^^^ (-Int32.ofNat 1)))
    have en : fl_en g (fl_hi (fl_evy (g 76) &&& (fl_bt1 t ^^^ (-Int32.ofNat 1)))) = fl_ndq g t := fl_mis_cg (fun i hi => by
      unfold fl_bt1
      rw [fl_hi_and, fl_hi_evy _ (by omega) i (by omega), fl_hi_not _ (by omega), fl_hi_bit t (by omega) i (by omega), decide_eq_true hi, Bool.true_and])
    rw [en] at e229
    unfold fl_bt1 at e229
    have fin : fl_Rn fl_C 230 16 [some (.ref 0), some (.int (fl_evy (g 76))), some (.int (fl_bi (fl_ndq g) (fun i => i) t)), some (.int (Int32.ofNat t))] [] x = fl_Rn fl_C 230 16 [some (.ref 0), some (.int (fl_evy (g 76))), some (.int (fl_bi (fl_ndq g) (fun i => i) (t + 1))), some (.int (Int32.ofNat (t + 1)))] [] y := by
      have bb : fl_bi (fl_ndq g) (fun i => i) (t + 1) = fl_bi (fl_ndq g) (fun i => i) t ||| (if fl_ndq g t = true then Int32.ofNat 1 <<< (Int32.ofNat t &&& Int32.ofNat 31) else Int32.ofNat 0) := rfl
      rw [bb]
      clear w d dx dy hy en bb
      generalize fl_bi (fl_ndq g) (fun i => i) t = BB at *
      generalize fl_evy (g 76) = EV at *
      cases c : fl_ndq g t with
      | true =>
        rw [c, if_pos rfl] at e229
        rw [if_pos rfl, fbC_230_16]
        simp (disch := omega) only [gx.1, gx.2, fl_KF, fl_RF, o27, fl_lit, fl_nadd, fl_nmul, fl_ndiv, fl_nsub, fl_msub, fl_nle, fl_nlt, fl_neq, fl_nclamp, fl_nin, fl_ltT, fl_ltF, fl_leT, fl_leF, fl_eqT, fl_eqF, decide_true, decide_false, Bool.true_and, Bool.and_true, Bool.false_and, Bool.and_false, if_true, if_false, Bool.false_eq_true, Option.isSome_some, Option.getD_some, not_true_eq_false, not_false_eq_true, Option.toList_some, Option.toList_none, List.cons_append, List.nil_append, i3, e229, fbP_230_38, fbC_230_47]
      | false =>
        rw [c, if_neg (by decide)] at e229
        rw [if_neg (by decide), fl_or0, fbC_230_16]
        simp (disch := omega) only [gx.1, gx.2, fl_KF, fl_RF, o27, fl_lit, fl_nadd, fl_nmul, fl_ndiv, fl_nsub, fl_msub, fl_nle, fl_nlt, fl_neq, fl_nclamp, fl_nin, fl_ltT, fl_ltF, fl_leT, fl_leF, fl_eqT, fl_eqF, decide_true, decide_false, Bool.true_and, Bool.and_true, Bool.false_and, Bool.and_false, if_true, if_false, Bool.false_eq_true, Option.isSome_some, Option.getD_some, not_true_eq_false, not_false_eq_true, Option.toList_some, Option.toList_none, List.cons_append, List.nil_append, i3, e229, fbP_230_38, fbC_230_47]
    rw [fin]
    exact hy y (fl_df_tr dx dy)
theorem fo_needless_b (hg : fl_g k0 h) (m : fl_mm h g) (w : fl_wf g) : ∃ y, fl_df fl_scr h y ∧ fl_cl fl_C 235 [.ref 259] h = some (some (some (.int (Int32.ofNat (fl_cnt (fl_hb (Int32.toInt64 (fl_nds g))) 64)))), fl_ra1 y (Int32.toInt64 (fl_nds g))) := by
  have w7 : g 76 ≤ 24 := w.1.2.2.2.2.2.2.2.1
  have q0 := fl_qt_0 (h := h) (x := Int32.ofNat 0)
  have g0 := fl_qo_g hg (fl_qt_qo q0)
  have m0 := fl_qo_mm m (fl_qt_qo q0)
  obtain ⟨rr, y, e141, rfl, ay⟩ := fr_141 g0 m0 w
  have qy := fl_qt_all ay
  have gy := fl_qo_g g0 (fl_qt_qo qy)
  have my := fl_qo_mm m0 (fl_qt_qo qy)
  have e142 := fr_dt gy my w ay
  have dy : fl_df fl_scr h y := fl_df_qt (fl_qt_tr q0 qy) (fun q j z => z)
  have st : fl_cl fl_C 235 [.ref 259] h = fl_Rn fl_C 235 19 [some (.ref 259), some (.long (fl_dt g)), none, some (.int (Int32.ofNat 0)), some (.int (Int32.ofNat 0))] [] y := by
    clear w m my ay qy dy q0 m0
    rw [fbE_235]
    simp (disch := omega) only [fl_k_wl, fl_r_wl, fl_i_wl, fl_l_wl, fl_1_wl, fl_k_wi, fl_r_wi, fl_l_wi, fl_1_wi, fl_i_wi, fl_k_si, fl_r_si, fl_l_si, fl_k_sl, fl_r_sl, fl_i_sl, fl_up_self, fl_up_ne, fl_si_wi, fl_sl_wl, fl_wi_wi, fl_wl_wl, hg.1, g0.1, gy.1, fl_KM, fl_RM, fl_lit, fl_nadd, fl_nmul, fl_ndiv, fl_nsub, fl_msub, fl_nle, fl_nlt, fl_neq, fl_nclamp, fl_nin, fl_ltT, fl_ltF, fl_leT, fl_leF, fl_eqT, fl_eqF, decide_true, decide_false, Bool.true_and, Bool.and_true, Bool.false_and, Bool.and_false, if_true, if_false, Bool.false_eq_true, Option.isSome_some, Option.getD_some, not_true_eq_false, not_false_eq_true, Option.toList_some, Option.toList_none, List.cons_append, List.nil_append, fbC_235_5, e141, fbP_235_9, e142, fbP_235_13]
  rw [st]
  clear st e141 e142 q0 qy ay m0 g0
  suffices fl_to (fl_Rn fl_C 235 19 [some (.ref 259), some (.long (fl_dt g)), none, some (.int (Int32.ofNat 0)), some (.int (Int32.ofNat 0))] [] y) (fun v z => v = some (.int (Int32.ofNat (fl_cnt (fl_hb (Int32.toInt64 (fl_nds g))) 64))) ∧ ∃ y, fl_df fl_scr h y ∧ z = fl_ra1 y (Int32.toInt64 (fl_nds g))) by
    obtain ⟨v, z, e, rfl, y, dy, rfl⟩ := this
    exact ⟨y, dy, e⟩
  refine fl_loopT (F := fun t x => fl_Rn fl_C 235 19 [some (.ref 259), some (.long (fl_dt g)), none, some (.int (fl_bi (fl_ndq g) (fun i => i) t)), some (.int (Int32.ofNat t))] [] x) (fun t x => fl_df fl_scr h x) (g 76) ?_ ?_ 0 y (Nat.zero_le _) dy
  · intro x dx
    have gx := fl_df_g hg dx
    have e130 := fr_130h gx
    rw [(dx.2.2.2 262 76 (by omega)).1, m 76 (by omega)] at e130
    have t1 := fr_ra1 gx (Int32.toInt64 (fl_nds g))
    have bt := fr_144 (h := fl_ra1 x (Int32.toInt64 (fl_nds g))) (Int32.toInt64 (fl_nds g))
    have ga := fl_a0_g gx
    have fin : fl_Rn fl_C 235 19 [some (.ref 259), some (.long (fl_dt g)), none, some (.int (fl_nds g)), some (.int (Int32.ofNat (g 76)))] [] x = some (some (some (.int (Int32.ofNat (fl_cnt (fl_hb (Int32.toInt64 (fl_nds g))) 64)))), fl_ra1 x (Int32.toInt64 (fl_nds g))) := by
      clear w m my dx dy gy
      generalize fl_ra1 x (Int32.toInt64 (fl_nds g)) = H1 at *
      generalize fl_nds g = ND at *
      rw [fbC_235_19]
      simp (disch := omega) only [fl_k_wl, fl_r_wl, fl_i_wl, fl_l_wl, fl_1_wl, fl_k_wi, fl_r_wi, fl_l_wi, fl_1_wi, fl_i_wi, fl_k_si, fl_r_si, fl_l_si, fl_k_sl, fl_r_sl, fl_i_sl, fl_up_self, fl_up_ne, fl_si_wi, fl_sl_wl, fl_wi_wi, fl_wl_wl, gx.1, gx.2, fl_KM, fl_RM, fl_lit, fl_nadd, fl_nmul, fl_ndiv, fl_nsub, fl_msub, fl_nle, fl_nlt, fl_neq, fl_nclamp, fl_nin, fl_ltT, fl_ltF, fl_leT, fl_leF, fl_eqT, fl_eqF, decide_true, decide_false, Bool.true_and, Bool.and_true, Bool.false_and, Bool.and_false, if_true, if_false, Bool.false_eq_true, Option.isSome_some, Option.getD_some, not_true_eq_false, not_false_eq_true, Option.toList_some, Option.toList_none, List.cons_append, List.nil_append, e130, fbP_235_25, fl_a0_w, fbC_235_62, ga.1, t1, fbP_235_68, bt, fbP_235_73]
    exact ⟨_, _, fin, rfl, x, dx, rfl⟩
  · intro t x ht dx hy
    have gx := fl_df_g hg dx
    have e130 := fr_130h gx
    rw [(dx.2.2.2 262 76 (by omega)).1, m 76 (by omega)] at e130
    have mx : fl_mm x g := fun j hj => by rw [(dx.2.2.2 262 j (by omega)).1]; exact m j hj
    obtain ⟨z, dz, e234⟩ := fr_234 gx mx w (fl_bt1 t)
    have en : fl_en g (fun i => !fl_hi (fl_bt1 t) i) = fl_ndq g t := fl_mis_cg (fun i hi => by
      unfold fl_bt1
      rw [fl_hi_bit t (by omega) i (by omega)])
    rw [en] at e234
    unfold fl_bt1 at e234
    have fin : fl_Rn fl_C 235 19 [some (.ref 259), some (.long (fl_dt g)), none, some (.int (fl_bi (fl_ndq g) (fun i => i) t)), some (.int (Int32.ofNat t))] [] x = fl_Rn fl_C 235 19 [some (.ref 259), some (.long (fl_dt g)), none, some (.int (fl_bi (fl_ndq g) (fun i => i) (t + 1))), some (.int (Int32.ofNat (t + 1)))] [] z := by
      have bb : fl_bi (fl_ndq g) (fun i => i) (t + 1) = fl_bi (fl_ndq g) (fun i => i) t ||| (if fl_ndq g t = true then Int32.ofNat 1 <<< (Int32.ofNat t &&& Int32.ofNat 31) else Int32.ofNat 0) := rfl
      rw [bb]
      clear w m my dx dy gy hy en bb mx dz
      generalize fl_bi (fl_ndq g) (fun i => i) t = BB at *
      generalize fl_dt g = DD at *
      cases c : fl_ndq g t with
      | true =>
        rw [c, if_pos rfl] at e234
        rw [if_pos rfl, fbC_235_19]
        simp (disch := omega) only [gx.1, gx.2, fl_KM, fl_RM, fl_lit, fl_nadd, fl_nmul, fl_ndiv, fl_nsub, fl_msub, fl_nle, fl_nlt, fl_neq, fl_nclamp, fl_nin, fl_ltT, fl_ltF, fl_leT, fl_leF, fl_eqT, fl_eqF, decide_true, decide_false, Bool.true_and, Bool.and_true, Bool.false_and, Bool.and_false, if_true, if_false, Bool.false_eq_true, Option.isSome_some, Option.getD_some, not_true_eq_false, not_false_eq_true, Option.toList_some, Option.toList_none, List.cons_append, List.nil_append, e130, fbP_235_25, e234, fbP_235_38]
      | false =>
        rw [c, if_neg (by decide)] at e234
        rw [if_neg (by decide), fbC_235_19]
        simp (disch := omega) only [gx.1, gx.2, fl_KM, fl_RM, fl_lit, fl_nadd, fl_nmul, fl_ndiv, fl_nsub, fl_msub, fl_nle, fl_nlt, fl_neq, fl_nclamp, fl_nin, fl_ltT, fl_ltF, fl_leT, fl_leF, fl_eqT, fl_eqF, decide_true, decide_false, Bool.true_and, Bool.and_true, Bool.false_and, Bool.and_false, if_true, if_false, Bool.false_eq_true, Option.isSome_some, Option.getD_some, not_true_eq_false, not_false_eq_true, Option.toList_some, Option.toList_none, List.cons_append, List.nil_append, e130, fbP_235_25, e234, fbP_235_38]
    rw [fin]
    exact hy z (fl_df_tr dx dz)
theorem fo_needless (I : fl_Inv k0 c h) : fl_both k0 c 230 235 [] [] h := by
  obtain ⟨rn, rv, iO⟩ := I.2.2.2.1
  obtain ⟨g, g1, g2, b1, b2, r, s1, s2, iG⟩ := I.2.2.2.2.2
  have w := iG.1
  have w7 : g 76 ≤ 24 := w.1.2.2.2.2.2.2.2.1
  obtain ⟨y, dy, a⟩ := fo_needless_a I.1 w iG.2.2.2.1 iO.2.2.1
  rw [← fl_cnt_i64 (fl_nds_31 w7)] at a
  have d1 : fl_df (fun q j => (144 ≤ q ∧ q ≤ 258) ∨ fl_Sc6 q j) h (fl_ca1 y (Int32.toInt64 (fl_nds g))) := fl_df_tr (fl_df_mo dy (fun q j z => Or.inl (by omega))) (fl_df_mo fl_ca1_df (fun q j z => Or.inr z))
  obtain ⟨z, dz, b⟩ := fo_needless_b (fl_df_g I.1 d1) (fun j hj => by rw [(d1.2.2.2 262 j (by omega)).1]; exact iG.2.1 j hj) w
  exact fo_tell1 I a (fl_df_mo dy (fun q j z => by omega)) b dz
end
