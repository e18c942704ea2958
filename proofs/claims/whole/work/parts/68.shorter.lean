/-! shorter -/
def fl_wy (g : Nat → Nat) : Nat → Int32
  | 0 => Int32.ofNat 0
  | j + 1 => fl_wy g j ||| (if fl_en g (fun i => !fl_hi (fl_wy g j ||| fl_bt1 (g 76 - 1 - j)) i) = true then fl_bt1 (g 76 - 1 - j) else Int32.ofNat 0)
def fl_wl0 (g : Nat → Nat) (j : Nat) : Int32 := fl_evy (g 76) &&& (fl_wy g j ^^^ (-Int32.ofNat 1))
theorem fl_hi_wl0 {g : Nat → Nat} (w7 : g 76 ≤ 24) (j : Nat) {c : Nat} (hc : c < 32) : fl_hi (fl_wl0 g j) c = (decide (c < g 76) && !fl_hi (fl_wy g j) c) := by
  unfold fl_wl0
  rw [fl_hi_and, fl_hi_evy _ (by omega) c hc, fl_hi_not _ hc]
theorem fl_wl0_0 {g : Nat → Nat} (w7 : g 76 ≤ 24) : fl_wl0 g 0 = fl_evy (g 76) := by
  apply fl_hi_ext
  intro c hc
  rw [fl_hi_wl0 w7 0 hc, fl_hi_evy _ (by omega) c hc]
  show (_ && !fl_hi (Int32.ofNat 0) c) = _
  rw [fl_hi_0 c hc, Bool.not_false, Bool.and_true]
theorem fl_wl0_y {g : Nat → Nat} (w7 : g 76 ≤ 24) {j : Nat} (e : fl_en g (fun i => !fl_hi (fl_wy g j ||| fl_bt1 (g 76 - 1 - j)) i) = true) : fl_wl0 g j &&& (fl_bt1 (g 76 - 1 - j) ^^^ (-Int32.ofNat 1)) = fl_wl0 g (j + 1) := by
  apply fl_hi_ext
  intro c hc
  rw [fl_hi_and, fl_hi_wl0 w7 j hc, fl_hi_wl0 w7 (j + 1) hc, fl_hi_not _ hc, fl_wy, if_pos e, fl_hi_or, Bool.not_or, Bool.and_assoc]
theorem fl_wl0_n {g : Nat → Nat} {j : Nat} (e : fl_en g (fun i => !fl_hi (fl_wy g j ||| fl_bt1 (g 76 - 1 - j)) i) = false) : fl_wl0 g (j + 1) = fl_wl0 g j := by
  unfold fl_wl0
  rw [fl_wy, e, if_neg (by decide), fl_or0]
theorem fl_m1_sub {n : Nat} : Int32.ofNat n - Int32.ofNat 1 = fl_m1 n := by
  cases n with
  | zero => rfl
  | succ n => rw [fl_m1_s, fl_nsub (by omega)]; rfl
theorem fl_m1_dec {n : Nat} : Int32.ofNat n + -Int32.ofNat 1 = fl_m1 n := by
  rw [← Int32.sub_eq_add_neg, fl_m1_sub]
section
variable {k0 : Nat → Nat × Nat} {h : fl_H} {g : Nat → Nat} {c : Nat × Nat × Nat × Bool}
theorem fo_shorter_a {r : Int64} (hg : fl_g k0 h) (w : fl_wf g) (d : fl_rn h 27 g r) (e1 : fl_i h 4 1 = Int32.ofNat 6) : ∃ y, fl_df (fl_SB 183) h y ∧ fl_cl fl_C 236 [.ref 0] h = some (some (some (.int (Int32.ofNat (fl_cnt (fl_hi (fl_wl0 g (g 76))) 32)))), fl_ca1 y (Int32.toInt64 (fl_wl0 g (g 76)))) := by
  have w7 : g 76 ≤ 24 := w.1.2.2.2.2.2.2.2.1
  have o27 : fl_KK k0 27 = (1, 7) := (fl_o27 (k0 := k0)).1.1
  have i3h := d.2.1.1
  have sub := fl_m1_sub (n := g 76)
  have st : fl_cl fl_C 236 [.ref 0] h = fl_Rn fl_C 236 22 [some (.ref 0), some (.int (fl_wl0 g 0)), some (.int (fl_m1 (g 76 - 0)))] [] h := by
    rw [fl_wl0_0 w7, Nat.sub_zero]
    clear w d
    unfold fl_evy
    rw [fbE_236]
    simp (disch := omega) only [hg.1, hg.2, fl_KF, fl_RF, o27, fl_lit, fl_nadd, fl_nmul, fl_ndiv, fl_nsub, fl_msub, fl_nle, fl_nlt, fl_neq, fl_nclamp, fl_nin, fl_ltT, fl_ltF, fl_leT, fl_leF, fl_eqT, fl_eqF, decide_true, decide_false, Bool.true_and, Bool.and_true, Bool.false_and, Bool.and_false, if_true, if_false, Bool.false_eq_true, Option.isSome_some, Option.getD_some, not_true_eq_false, not_false_eq_true, Option.toList_some, Option.toList_none, List.cons_append, List.nil_append, i3h, sub]
  rw [st]
  clear st sub
  suffices fl_to (fl_Rn fl_C 236 22 [some (.ref 0), some (.int (fl_wl0 g 0)), some (.int (fl_m1 (g 76 - 0)))] [] h) (fun v z => v = some (.int (Int32.ofNat (fl_cnt (fl_hi (fl_wl0 g (g 76))) 32))) ∧ ∃ y, fl_df (fl_SB 183) h y ∧ z = fl_ca1 y (Int32.toInt64 (fl_wl0 g (g 76)))) by
    obtain ⟨v, z, e, rfl, y, dy, rfl⟩ := this
    exact ⟨y, dy, e⟩
  refine fl_loopT (F := fun t x => fl_Rn fl_C 236 22 [some (.ref 0), some (.int (fl_wl0 g t)), some (.int (fl_m1 (g 76 - t)))] [] x) (fun t x => fl_df (fl_SB 183) h x) (g 76) ?_ ?_ 0 h (Nat.zero_le _) fl_df_rfl
  · intro x dx
    have gx := fl_df_g hg dx
    have x1 : fl_i x 4 1 = Int32.ofNat 6 := by rw [(dx.2.2.2 4 1 (by omega)).1]; exact e1
    have t1 := fc_ca1 gx x1 (Int32.toInt64 (fl_wl0 g (g 76)))
    have b := fc_190 (h := fl_ca1 x (Int32.toInt64 (fl_wl0 g (g 76)))) (fl_wl0 g (g 76))
    have mz : (fl_m1 0 < Int32.ofNat 0) = True := eq_true (by decide)
    have fin : fl_Rn fl_C 236 22 [some (.ref 0), some (.int (fl_wl0 g (g 76))), some (.int (fl_m1 0))] [] x = some (some (some (.int (Int32.ofNat (fl_cnt (fl_hi (fl_wl0 g (g 76))) 32)))), fl_ca1 x (Int32.toInt64 (fl_wl0 g (g 76)))) := by
      clear w d dx
      generalize fl_wl0 g (g 76) = L at *
      generalize fl_ca1 x (Int32.toInt64 L) = H1 at *
      rw [fbC_236_22]
      simp (disch := omega) only [gx.1, gx.2, fl_KF, fl_RF, o27, fl_lit, fl_nadd, fl_nmul, fl_ndiv, fl_nsub, fl_msub, fl_nle, fl_nlt, fl_neq, fl_nclamp, fl_nin, fl_ltT, fl_ltF, fl_leT, fl_leF, fl_eqT, fl_eqF, decide_true, decide_false, Bool.true_and, Bool.and_true, Bool.false_and, Bool.and_false, if_true, if_false, Bool.false_eq_true, Option.isSome_some, Option.getD_some, not_true_eq_false, not_false_eq_true, Option.toList_some, Option.toList_none, List.cons_append, List.nil_append, mz, t1, fbP_236_60, b, fbP_236_64]
    exact ⟨_, _, by rw [Nat.sub_self]; exact fin, rfl, x, dx, rfl⟩
  · intro j x hj dx hy
    have gx := fl_df_g hg dx
    obtain ⟨y, dy, e229⟩ := fc_229 gx w (fl_rn_fr d (fun q z1 z2 => ⟨fl_df_i dx (fun j => by omega), fl_df_l dx (fun j => by omega)⟩)) (fl_wl0 g j &&& (fl_bt1 (g 76 - 1 - j) ^^^ (-Int32.ofNat 1)))
    have en : fl_en g (fl_hi (fl_wl0 g j &&& (fl_bt1 (g 76 - 1 - j) ^^^ (-Int32.ofNat 1)))) = fl_en g (fun i => !fl_hi (fl_wy g j ||| fl_bt1 (g 76 - 1 - j)) i) := fl_mis_cg (fun i hi => by
      rw [fl_hi_and, fl_hi_wl0 w7 j (by omega), fl_hi_not _ (by omega), decide_eq_true hi, Bool.true_and, fl_hi_or, Bool.not_or])
    rw [en] at e229
    have yy := fl_wl0_y (g := g) w7 (j := j)
    have yn := fl_wl0_n (g := g) (j := j)
    have s1 : fl_m1 (g 76 - j) = Int32.ofNat (g 76 - 1 - j) := by rw [show g 76 - j = (g 76 - 1 - j) + 1 by omega, fl_m1_s]
    have s2 : fl_m1 (g 76 - (j + 1)) = fl_m1 (g 76 - 1 - j) := by rw [show g 76 - (j + 1) = g 76 - 1 - j by omega]
    have dc := fl_m1_dec (n := g 76 - 1 - j)
    have lt : g 76 - 1 - j < 24 := by omega
    have fin : fl_Rn fl_C 236 22 [some (.ref 0), some (.int (fl_wl0 g j)), some (.int (fl_m1 (g 76 - j)))] [] x = fl_Rn fl_C 236 22 [some (.ref 0), some (.int (fl_wl0 g (j + 1))), some (.int (fl_m1 (g 76 - (j + 1))))] [] y := by
      rw [s1, s2]
      clear w d dx dy hy en s1 s2
      generalize fl_en g (fun i => !fl_hi (fl_wy g j ||| fl_bt1 (g 76 - 1 - j)) i) = b at *
      cases b with
      | true =>
        rw [if_pos rfl] at e229
        rw [← yy rfl]
        clear yy yn
        unfold fl_bt1 at *
        generalize g 76 - 1 - j = t at *
        generalize fl_wl0 g j = L at *
        rw [fbC_236_22]
        simp (disch := omega) only [gx.1, gx.2, fl_KF, fl_RF, o27, fl_lit, fl_nadd, fl_nmul, fl_ndiv, fl_nsub, fl_msub, fl_nle, fl_nlt, fl_neq, fl_nclamp, fl_nin, fl_ltT, fl_ltF, fl_leT, fl_leF, fl_eqT, fl_eqF, decide_true, decide_false, Bool.true_and, Bool.and_true, Bool.false_and, Bool.and_false, if_true, if_false, Bool.false_eq_true, Option.isSome_some, Option.getD_some, not_true_eq_false, not_false_eq_true, Option.toList_some, Option.toList_none, List.cons_append, List.nil_append, e229, fbP_236_37, fbC_236_48, dc]
      | false =>
        rw [if_neg (by decide)] at e229
        rw [yn rfl]
        clear yy yn
        unfold fl_bt1 at *
        generalize g 76 - 1 - j = t at *
        generalize fl_wl0 g j = L at *
        rw [fbC_236_22]
        simp (disch := omega) only [gx.1, gx.2, fl_KF, fl_RF, o27, fl_lit, fl_nadd, fl_nmul, fl_ndiv, fl_nsub, fl_msub, fl_nle, fl_nlt, fl_neq, fl_nclamp, fl_nin, fl_ltT, fl_ltF, fl_leT, fl_leF, fl_eqT, fl_eqF, decide_true, decide_false, Bool.true_and, Bool.and_true, Bool.false_and, Bool.and_false, if_true, if_false, Bool.false_eq_true, Option.isSome_some, Option.getD_some, not_true_eq_false, not_false_eq_true, Option.toList_some, Option.toList_none, List.cons_append, List.nil_append, e229, fbP_236_37, fbC_236_48, dc]
    rw [fin]
    exact hy y (fl_df_tr dx dy)
theorem fo_shorter_b (hg : fl_g k0 h) (m : fl_mm h g) (w : fl_wf g) : ∃ y, fl_df fl_scr h y ∧ fl_cl fl_C 237 [.ref 259] h = some (some (some (.int (Int32.ofNat (fl_cnt (fl_hb (Int32.toInt64 (fl_wl0 g (g 76)))) 64)))), fl_ra1 y (Int32.toInt64 (fl_wl0 g (g 76)))) := by
  have w7 : g 76 ≤ 24 := w.1.2.2.2.2.2.2.2.1
  have q0 := fl_qt_0 (h := h) (x := Int32.ofNat 0)
  have g0 := fl_qo_g hg (fl_qt_qo q0)
  have m0 := fl_qo_mm m (fl_qt_qo q0)
  obtain ⟨rr, y, e141, rfl, ay⟩ := fr_141 g0 m0 w
  have qy := fl_qt_all ay
  have gy := fl_qo_g g0 (fl_qt_qo qy)
  have my := fl_qo_mm m0 (fl_qt_qo qy)
  have e142 := fr_dt gy my w ay
  have dy : fl_df fl_scr h y := fl_df_qt (fl_qt_tr q0 qy) (fun q j z => z)
  have e130 := fr_130h gy
  rw [my 76 (by omega)] at e130
  have sub := fl_m1_sub (n := g 76)
  have st : fl_cl fl_C 237 [.ref 259] h = fl_Rn fl_C 237 24 [some (.ref 259), some (.long (fl_dt g)), none, some (.int (fl_wy g 0)), some (.int (fl_m1 (g 76 - 0)))] [] y := by
    rw [Nat.sub_zero, show fl_wy g 0 = Int32.ofNat 0 from rfl]
    clear w m my ay qy dy q0 m0
    rw [fbE_237]
    simp (disch := omega) only [fl_k_wl, fl_r_wl, fl_i_wl, fl_l_wl, fl_1_wl, fl_k_wi, fl_r_wi, fl_l_wi, fl_1_wi, fl_i_wi, fl_k_si, fl_r_si, fl_l_si, fl_k_sl, fl_r_sl, fl_i_sl, fl_up_self, fl_up_ne, fl_si_wi, fl_sl_wl, fl_wi_wi, fl_wl_wl, hg.1, g0.1, gy.1, fl_KM, fl_RM, fl_lit, fl_nadd, fl_nmul, fl_ndiv, fl_nsub, fl_msub, fl_nle, fl_nlt, fl_neq, fl_nclamp, fl_nin, fl_ltT, fl_ltF, fl_leT, fl_leF, fl_eqT, fl_eqF, decide_true, decide_false, Bool.true_and, Bool.and_true, Bool.false_and, Bool.and_false, if_true, if_false, Bool.false_eq_true, Option.isSome_some, Option.getD_some, not_true_eq_false, not_false_eq_true, Option.toList_some, Option.toList_none, List.cons_append, List.nil_append, fbC_237_5, e141, fbP_237_9, e142, fbP_237_13, e130, fbP_237_20, sub]
  rw [st]
  clear st e141 e142 q0 qy ay m0 g0 sub e130
  suffices fl_to (fl_Rn fl_C 237 24 [some (.ref 259), some (.long (fl_dt g)), none, some (.int (fl_wy g 0)), some (.int (fl_m1 (g 76 - 0)))] [] y) (fun v z => v = some (.int (Int32.ofNat (fl_cnt (fl_hb (Int32.toInt64 (fl_wl0 g (g 76)))) 64))) ∧ ∃ y, fl_df fl_scr h y ∧ z = fl_ra1 y (Int32.toInt64 (fl_wl0 g (g 76)))) by
    obtain ⟨v, z, e, rfl, y, dy, rfl⟩ := this
    exact ⟨y, dy, e⟩
  refine fl_loopT (F := fun t x => fl_Rn fl_C 237 24 [some (.ref 259), some (.long (fl_dt g)), none, some (.int (fl_wy g t)), some (.int (fl_m1 (g 76 - t)))] [] x) (fun t x => fl_df fl_scr h x) (g 76) ?_ ?_ 0 y (Nat.zero_le _) dy
  · intro x dx
    have gx := fl_df_g hg dx
    have e130 := fr_130h gx
    rw [(dx.2.2.2 262 76 (by omega)).1, m 76 (by omega)] at e130
    have t1 := fr_ra1 gx (Int32.toInt64 (fl_wl0 g (g 76)))
    have bt := fr_144 (h := fl_ra1 x (Int32.toInt64 (fl_wl0 g (g 76)))) (Int32.toInt64 (fl_wl0 g (g 76)))
    have ga := fl_a0_g gx
    have mz : (fl_m1 0 < Int32.ofNat 0) = True := eq_true (by decide)
    have wl : ((Int32.ofNat 1 <<< (Int32.ofNat (g 76) &&& Int32.ofNat 31)) - Int32.ofNat 1) &&& (fl_wy g (g 76) ^^^ (-Int32.ofNat 1)) = fl_wl0 g (g 76) := rfl
    have fin : fl_Rn fl_C 237 24 [some (.ref 259), some (.long (fl_dt g)), none, some (.int (fl_wy g (g 76))), some (.int (fl_m1 0))] [] x = some (some (some (.int (Int32.ofNat (fl_cnt (fl_hb (Int32.toInt64 (fl_wl0 g (g 76)))) 64)))), fl_ra1 x (Int32.toInt64 (fl_wl0 g (g 76)))) := by
      clear w m my dx dy gy
      generalize fl_ra1 x (Int32.toInt64 (fl_wl0 g (g 76))) = H1 at *
      generalize fl_wl0 g (g 76) = ND at *
      generalize fl_wy g (g 76) = NY at *
      rw [fbC_237_24]
      simp (disch := omega) only [fl_k_wl, fl_r_wl, fl_i_wl, fl_l_wl, fl_1_wl, fl_k_wi, fl_r_wi, fl_l_wi, fl_1_wi, fl_i_wi, fl_k_si, fl_r_si, fl_l_si, fl_k_sl, fl_r_sl, fl_i_sl, fl_up_self, fl_up_ne, fl_si_wi, fl_sl_wl, fl_wi_wi, fl_wl_wl, gx.1, gx.2, fl_KM, fl_RM, fl_lit, fl_nadd, fl_nmul, fl_ndiv, fl_nsub, fl_msub, fl_nle, fl_nlt, fl_neq, fl_nclamp, fl_nin, fl_ltT, fl_ltF, fl_leT, fl_leF, fl_eqT, fl_eqF, decide_true, decide_false, Bool.true_and, Bool.and_true, Bool.false_and, Bool.and_false, if_true, if_false, Bool.false_eq_true, Option.isSome_some, Option.getD_some, not_true_eq_false, not_false_eq_true, Option.toList_some, Option.toList_none, List.cons_append, List.nil_append, mz, e130, fbP_237_65, wl, fl_a0_w, fbC_237_79, ga.1, t1, fbP_237_86, bt, fbP_237_92]
    exact ⟨_, _, by rw [Nat.sub_self]; exact fin, rfl, x, dx, rfl⟩
  · intro j x hj dx hy
    have gx := fl_df_g hg dx
    have mx : fl_mm x g := fun j hj => by rw [(dx.2.2.2 262 j (by omega)).1]; exact m j hj
    obtain ⟨z, dz, e234⟩ := fr_234 gx mx w (fl_wy g j ||| fl_bt1 (g 76 - 1 - j))
    have s1 : fl_m1 (g 76 - j) = Int32.ofNat (g 76 - 1 - j) := by rw [show g 76 - j = (g 76 - 1 - j) + 1 by omega, fl_m1_s]
    have s2 : fl_m1 (g 76 - (j + 1)) = fl_m1 (g 76 - 1 - j) := by rw [show g 76 - (j + 1) = g 76 - 1 - j by omega]
    have dc := fl_m1_dec (n := g 76 - 1 - j)
    have lt : g 76 - 1 - j < 24 := by omega
    have fin : fl_Rn fl_C 237 24 [some (.ref 259), some (.long (fl_dt g)), none, some (.int (fl_wy g j)), some (.int (fl_m1 (g 76 - j)))] [] x = fl_Rn fl_C 237 24 [some (.ref 259), some (.long (fl_dt g)), none, some (.int (fl_wy g (j + 1))), some (.int (fl_m1 (g 76 - (j + 1))))] [] z := by
      rw [s1, s2, fl_wy]
      clear w m my dx dy gy hy mx dz s1 s2
      generalize fl_en g (fun i => !fl_hi (fl_wy g j ||| fl_bt1 (g 76 - 1 - j)) i) = b at *
      unfold fl_bt1 at *
      generalize g 76 - 1 - j = t at *
      generalize fl_wy g j = L at *
      generalize fl_dt g = DD at *
      cases b with
      | true =>
        rw [if_pos rfl] at e234
        rw [if_pos rfl, fbC_237_24]
        simp (disch := omega) only [gx.1, gx.2, fl_KM, fl_RM, fl_lit, fl_nadd, fl_nmul, fl_ndiv, fl_nsub, fl_msub, fl_nle, fl_nlt, fl_neq, fl_nclamp, fl_nin, fl_ltT, fl_ltF, fl_leT, fl_leF, fl_eqT, fl_eqF, decide_true, decide_false, Bool.true_and, Bool.and_true, Bool.false_and, Bool.and_false, if_true, if_false, Bool.false_eq_true, Option.isSome_some, Option.getD_some, not_true_eq_false, not_false_eq_true, Option.toList_some, Option.toList_none, List.cons_append, List.nil_append, e234, fbP_237_41, dc]
      | false =>
        rw [if_neg (by decide)] at e234
        rw [if_neg (by decide), fbC_237_24]
        simp (disch := omega) only [gx.1, gx.2, fl_KM, fl_RM, fl_lit, fl_nadd, fl_nmul, fl_ndiv, fl_nsub, fl_msub, fl_nle, fl_nlt, fl_neq, fl_nclamp, fl_nin, fl_ltT, fl_ltF, fl_leT, fl_leF, fl_eqT, fl_eqF, decide_true, decide_false, Bool.true_and, Bool.and_true, Bool.false_and, Bool.and_false, if_true, if_false, Bool.false_eq_true, Option.isSome_some, Option.getD_some, not_true_eq_false, not_false_eq_true, Option.toList_some, Option.toList_none, List.cons_append, List.nil_append, e234, fbP_237_41, dc]
    rw [fin]
    exact hy z (fl_df_tr dx dz)
theorem fo_shorter (I : fl_Inv k0 c h) : fl_both k0 c 236 237 [] [] h := by
  obtain ⟨rn, rv, iO⟩ := I.2.2.2.1
  obtain ⟨g, g1, g2, b1, b2, r, s1, s2, iG⟩ := I.2.2.2.2.2
  have w := iG.1
  have w7 : g 76 ≤ 24 := w.1.2.2.2.2.2.2.2.1
  obtain ⟨y, dy, a⟩ := fo_shorter_a I.1 w iG.2.2.2.1 iO.2.2.1
  rw [← fl_cnt_i64 (show fl_hi (fl_wl0 g (g 76)) 31 = false by rw [fl_hi_wl0 w7 _ (by omega), decide_eq_false (by omega), Bool.false_and])] at a
  have d1 : fl_df (fun q j => (144 ≤ q ∧ q ≤ 258) ∨ fl_Sc6 q j) h (fl_ca1 y (Int32.toInt64 (fl_wl0 g (g 76)))) := fl_df_tr (fl_df_mo dy (fun q j z => Or.inl (by omega))) (fl_df_mo fl_ca1_df (fun q j z => Or.inr z))
  obtain ⟨z, dz, b⟩ := fo_shorter_b (fl_df_g I.1 d1) (fun j hj => by rw [(d1.2.2.2 262 j (by omega)).1]; exact iG.2.1 j hj) w
  exact fo_tell1 I a (fl_df_mo dy (fun q j z => by omega)) b dz
end
