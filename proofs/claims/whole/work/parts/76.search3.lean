/-! A SEARCH, the class's side: a pattern followed; a row traced -/
section
variable {k0 : Nat → Nat × Nat} {h : fl_H} {g ρ : Nat → Nat} {a : Nat} {lv : Nat → Bool} {S : fl_Se}
theorem fl_mv_fr {y : fl_H} (w : fl_wf g) (M : fl_mv h a lv g) (e1 : fl_l y (a + 11) = fl_l h (a + 11)) (e2 : fl_l y (a + 13) = fl_l h (a + 13)) (e3 : fl_l y (a + 15) = fl_l h (a + 15)) : fl_mv y a lv g := fun ρ n r hn nz => by
  rw [e1] at nz
  exact fl_ec_fr w (M ρ n r hn nz) (fun i _ => by rw [e2, e3]; exact ⟨rfl, rfl⟩)
theorem fl_cs_df {y : fl_H} {T : Nat → Nat → Prop} (I : fl_cs h g S) (f : fl_df T h y) (z1 : ¬ T 214 8) (z : ∀ q j, 250 ≤ q → q ≤ 258 → ¬ T q j) : fl_cs y g S := by
  have e : ∀ q, 250 ≤ q → q ≤ 258 → fl_l y q = fl_l h q := fun q a b => fl_df_l f (fun j => z q j a b)
  refine ⟨by rw [(f.2.2.2 _ _ z1).1]; exact I.1, fun c hc => by rw [e 250 (by omega) (by omega)]; exact I.2.1 c hc, fun k hk => ?_⟩
  rw [e 252 (by omega) (by omega), e 254 (by omega) (by omega), e 256 (by omega) (by omega), e 258 (by omega) (by omega)]
  exact I.2.2 k hk
theorem fl_mgb_df {y : fl_H} {T : Nat → Nat → Prop} (w : fl_wf g) (M : fl_mgb h g) (f : fl_df T h y) (z : ∀ q j, 217 ≤ q → q ≤ 248 → ¬ T q j) : fl_mgb y g := by
  have e : ∀ q, 217 ≤ q → q ≤ 248 → fl_l y q = fl_l h q := fun q a b => fl_df_l f (fun j => z q j a b)
  exact ⟨fl_mv_fr w M.1 (e _ (by omega) (by omega)) (e _ (by omega) (by omega)) (e _ (by omega) (by omega)), fl_mv_fr w M.2 (e _ (by omega) (by omega)) (e _ (by omega) (by omega)) (e _ (by omega) (by omega))⟩
abbrev fl_SF (q j : Nat) : Prop := (q = 214 ∧ j = 8) ∨ (217 ≤ q ∧ q ≤ 258)
theorem fc_216 (hg : fl_g k0 h) (w : fl_wf g) (d : fl_net h 28 g) (I : fl_cs h g S) (J : fl_J0 g S) (M : fl_mgb h g) {i f n : Nat} (hi : i < S.1) (hf : f < 2 * (g 0 + g 2)) (hn : n < 16) (J' : fl_J0 g (fl_rch g S (fl_nxe g f i (S.2.1 i) n))) (d6 : (S.2.1 i).2.2.1 < 6) : ∃ y, fl_cl fl_C 216 [.ref 214, .ref 28, .int (Int32.ofNat f), .int (Int32.ofNat i), .int (Int32.ofNat n)] h = some (some (some (.int (if fl_sh g f (S.2.1 i) n = true then Int32.ofNat 1 else Int32.ofNat 0))), y) ∧ fl_df fl_SF h y ∧ fl_mgb y g ∧ fl_cs y g (if fl_sh g f (S.2.1 i) n = true then S else fl_rch g S (fl_nxe g f i (S.2.1 i) n)) := by
  have o214 := fl_o214 (k0 := k0)
  have K := fl_o249 (k0 := k0)
  have V := fl_o217 (k0 := k0)
  have U := fl_o233 (k0 := k0)
  have N := fl_sk28 (k0 := k0)
  have r := J.2.2.1 i hi
  have s729 := fl_J_729 J
  have w0 : g 0 ≤ 12 := w.1.2.2.2.1
  have w2 : g 2 ≤ 20 := w.1.2.2.2.2.1
  have c := I.2.2 i hi
  have e24 := fc_int K.2.1 hg (show i < 729 by omega)
  rw [c.1, fl_o32] at e24
  have lt1 := fl_cc_lt w r.1
  have lt2 := fl_cc_lt w r.2
  have hcp : fl_cpc g (S.2.1 i) = fl_cc g (S.2.1 i).1 * 27 + fl_cc g (S.2.1 i).2.1 := rfl
  obtain ⟨y1, e1, d1, M1, E1⟩ := fc_213 (a := 217) (lv := fun _ => false) V (by omega) hg w d r.1 hn M.1
  have g1 := fl_df_g hg d1
  have n1 : fl_net y1 28 g := fl_net_df d d1 (fun q j z => by omega)
  have l1 : ∀ q, 235 ≤ q → fl_l y1 q = fl_l h q := fun q z => fl_df_l d1 (fun j => by omega)
  have e110 : fl_cl fl_C 110 [.ref 28] y1 = some (some (some (.long (fl_B (fl_lvf g)))), y1) := fc_110 g1 N w n1
  obtain ⟨y2, e2, d2, M2, E2⟩ := fc_213 (a := 233) (lv := fl_lvf g) U (by omega) g1 w n1 r.2 hn (fl_mv_fr w M.2 (l1 _ (by omega)) (l1 _ (by omega)) (l1 _ (by omega)))
  have g2 := fl_df_g g1 d2
  have n2 : fl_net y2 28 g := fl_net_df n1 d2 (fun q j z => by omega)
  have l2 : ∀ q, q ≤ 234 → fl_l y2 q = fl_l y1 q := fun q z => fl_df_l d2 (fun j => by omega)
  have F1 : fl_ec y2 217 (fun _ => false) g (fl_cc g (S.2.1 i).1 * 16 + n) n (S.2.1 i).1 := fl_ec_fr w E1 (fun i _ => by rw [l2 (217 + 13) (by omega), l2 (217 + 15) (by omega)]; exact ⟨rfl, rfl⟩)
  have MM : fl_mgb y2 g := ⟨fl_mv_fr w M1 (l2 _ (by omega)) (l2 _ (by omega)) (l2 _ (by omega)), M2⟩
  have faf : fl_fa (fl_lvf g) f = f := by unfold fl_fa; rw [if_pos (decide_eq_true hf)]
  have e214 := fc_214 U V g2 w n2 (c := f) (by omega) (show fl_cc g (S.2.1 i).2.1 * 16 + n < 432 by omega) (show fl_cc g (S.2.1 i).1 * 16 + n < 432 by omega) r.2 r.1 E2 F1
  rw [faf] at e214
  have e215g := fc_215 V g2 w n2 (c := 0) (by omega) (show fl_cc g (S.2.1 i).1 * 16 + n < 432 by omega) r.1 F1
  rw [show fl_fa (fun _ => false) 0 = 64 from rfl] at e215g
  have e215b := fc_215 U g2 w n2 (c := f) (by omega) (show fl_cc g (S.2.1 i).2.1 * 16 + n < 432 by omega) r.2 E2
  rw [faf] at e215b
  have dT : fl_df (fun q _ => 217 ≤ q ∧ q ≤ 248) h y2 := fl_df_tr (fl_df_mo d1 (fun q j z => by omega)) (fl_df_mo d2 (fun q j z => by omega))
  have I2 : fl_cs y2 g S := fl_cs_df I dT (by omega) (fun q j z1 z2 => by omega)
  have e24d := fc_int K.2.2.1 g2 (show i < 729 by omega)
  rw [(I2.2.2 i hi).2.1, fl_o32] at e24d
  have v1 := V.1.1
  have u1 := U.1.1
  have o28 := N.1.1
  have c2 := K.2.1.1
  have c4 := K.2.2.1.1
  have x1 : (fl_cc g (S.2.1 i).1 * 27 + fl_cc g (S.2.1 i).2.1) / 27 = fl_cc g (S.2.1 i).1 := by omega
  have x2 : fl_cc g (S.2.1 i).1 * 27 + fl_cc g (S.2.1 i).2.1 - fl_cc g (S.2.1 i).1 * 27 = fl_cc g (S.2.1 i).2.1 := by omega
  rw [hcp] at e24
  rw [← fl_B_0] at e1
  have hsh : fl_any (fl_sq g (fl_vv g 64 n (S.2.1 i).1) (fl_vv g f n (S.2.1 i).2.1)) (g 3) = fl_sh g f (S.2.1 i) n := rfl
  rw [hsh] at e214
  by_cases q : fl_sh g f (S.2.1 i) n = true
  · rw [if_pos q] at e214 ⊢
    rw [if_pos q]
    refine ⟨y2, ?_, fl_df_mo dT (fun q j z => by omega), MM, I2⟩
    clear d w I J J' M V U N K r c E1 E2 F1 MM I2 d1 d2 dT n1 n2 l1 l2 hcp hsh M1 M2
    generalize fl_cc g (S.2.1 i).1 = C1 at *
    generalize fl_cc g (S.2.1 i).2.1 = C2 at *
    generalize fl_B (fl_lvf g) = LL at *
    rw [fbE_216]
    simp (disch := omega) only [hg.1, hg.2, g1.1, g1.2, g2.1, g2.2, o214, c2, v1, u1, o28, fl_lit, fl_nadd, fl_nmul, fl_ndiv, fl_nsub, fl_msub, fl_nle, fl_nlt, fl_neq, fl_nclamp, fl_nin, fl_ltT, fl_ltF, fl_leT, fl_leF, fl_eqT, fl_eqF, decide_true, decide_false, Bool.true_and, Bool.and_true, Bool.false_and, Bool.and_false, if_true, if_false, Bool.false_eq_true, Option.isSome_some, Option.getD_some, not_true_eq_false, not_false_eq_true, Option.toList_some, Option.toList_none, List.cons_append, List.nil_append, e24, fbP_216_8, x1, e1, fbP_216_26, x2, e110, fbP_216_44, e2, fbP_216_47, e214, fbP_216_66]
  · rw [if_neg q] at e214 ⊢
    rw [if_neg q]
    have J3 := fl_J_729 J'
    have r1 : fl_r2 g (fl_nxe g f i (S.2.1 i) n).1 := fl_nx_r2 w r.1
    have r2 : fl_r2 g (fl_nxe g f i (S.2.1 i) n).2.1 := fl_nx_r2 w r.2
    obtain ⟨z, e209, dz, Iz⟩ := fc_209 g2 I2 (e := fl_nxe g f i (S.2.1 i) n) (Int32.ofNat i) (fun _ => rfl) (show i < 1000 by omega) (show (S.2.1 i).2.2.1 + 1 < 1000 by omega) (show n < 1000 by omega) (fl_cp_lt w r1 r2) (fun zf => by
      unfold fl_rch at J3
      rw [if_neg (by rw [zf]; decide)] at J3
      dsimp only at J3
      omega)
    refine ⟨z, ?_, fl_df_tr (fl_df_mo dT (fun q j z => by omega)) (fl_df_mo dz (fun q j z => by omega)), fl_mgb_df w MM dz (fun q j z1 z2 => by omega), Iz⟩
    have hc' : fl_cpc g (fl_nxe g f i (S.2.1 i) n) = fl_cc g (fl_nxt g 64 n (S.2.1 i).1) * 27 + fl_cc g (fl_nxt g f n (S.2.1 i).2.1) := rfl
    rw [hc', show (fl_nxe g f i (S.2.1 i) n).2.2 = ((S.2.1 i).2.2.1 + 1, i, n) from rfl] at e209
    dsimp only at e209
    clear d w I J J' M V U N K r c E1 E2 F1 MM I2 d1 d2 dT n1 n2 l1 l2 hcp hsh M1 M2 r1 r2 hc' dz Iz J3
    generalize fl_cc g (S.2.1 i).1 = C1 at *
    generalize fl_cc g (S.2.1 i).2.1 = C2 at *
    generalize fl_cc g (fl_nxt g 64 n (S.2.1 i).1) = C3 at *
    generalize fl_cc g (fl_nxt g f n (S.2.1 i).2.1) = C4 at *
    generalize fl_B (fl_lvf g) = LL at *
    generalize (S.2.1 i).2.2.1 = DD at *
    rw [fbE_216]
    simp (disch := omega) only [hg.1, hg.2, g1.1, g1.2, g2.1, g2.2, o214, c2, c4, v1, u1, o28, fl_lit, fl_nadd, fl_nmul, fl_ndiv, fl_nsub, fl_msub, fl_nle, fl_nlt, fl_neq, fl_nclamp, fl_nin, fl_ltT, fl_ltF, fl_leT, fl_leF, fl_eqT, fl_eqF, decide_true, decide_false, Bool.true_and, Bool.and_true, Bool.false_and, Bool.and_false, if_true, if_false, Bool.false_eq_true, Option.isSome_some, Option.getD_some, not_true_eq_false, not_false_eq_true, Option.toList_some, Option.toList_none, List.cons_append, List.nil_append, e24, fbP_216_8, x1, e1, fbP_216_26, x2, e110, fbP_216_44, e2, fbP_216_47, e214, fbP_216_66, e215g, fbP_216_82, e215b, fbP_216_95, e24d, fbP_216_114, e209, fbP_216_122]
/-- rows of numbers -/
theorem fl_rw_lt (J : fl_J0 g S) : ∀ d k j, k < S.1 → (S.2.1 k).2.2.1 = d → fl_rwS S.2.1 d k j < 16
  | 0, k, j, hk, hd => Nat.succ_pos _
  | d + 1, k, j, hk, hd => by
    have k0 : 0 < k := by
      rcases Nat.eq_zero_or_pos k with z | z
      · subst z
        have := J.2.2.2.1.2.1; omega
      · exact z
    have a := J.2.2.2.1.2.2 k k0 hk
    rw [fl_rwS]
    by_cases jd : j = d
    · subst jd
      rw [fl_up_self]; exact a.2.2
    · rw [fl_up_ne jd]
      exact fl_rw_lt J d _ j (by omega) (by omega)
theorem fc_217l (J : fl_J0 g S) : ∀ d k (h : fl_H), fl_g k0 h → fl_cs h g S → k < S.1 → (S.2.1 k).2.2.1 = d → ∃ y, fl_Rn fl_C 217 18 [some (.ref 214), none, none, none, some (.int (Int32.ofNat k)), some (.int (Int32.ofNat d + -Int32.ofNat 1))] [] h = some (some none, y) ∧ fl_df (fun q j => q = 216 ∧ j < d) h y ∧ ∀ j, j < d → fl_l y 216 j = Int64.ofNat (fl_rwS S.2.1 d k j)
  | 0, k, h, hg, I, hk, hd => by
    refine ⟨h, ?_, fl_df_rfl, fun j z => by omega⟩
    have z : (Int32.ofNat 0 + -Int32.ofNat 1 < Int32.ofNat 0) = True := eq_true (by decide)
    rw [fbC_217_18]
    simp (disch := omega) only [fl_lit, fl_nadd, fl_nmul, fl_ndiv, fl_nsub, fl_msub, fl_nle, fl_nlt, fl_neq, fl_nclamp, fl_nin, fl_ltT, fl_ltF, fl_leT, fl_leF, fl_eqT, fl_eqF, decide_true, decide_false, Bool.true_and, Bool.and_true, Bool.false_and, Bool.and_false, if_true, if_false, Bool.false_eq_true, Option.isSome_some, Option.getD_some, not_true_eq_false, not_false_eq_true, Option.toList_some, Option.toList_none, List.cons_append, List.nil_append, z]
  | d + 1, k, h, hg, I, hk, hd => by
    have k0' : 0 < k := by
      rcases Nat.eq_zero_or_pos k with z | z
      · subst z
        have := J.2.2.2.1.2.1; omega
      · exact z
    have b := J.2.2.2.1.2.2 k k0' hk
    have s729 := fl_J_729 J
    have d6 := J.2.2.2.2.2 k hk
    have o214 := fl_o214 (k0 := k0)
    have K := fl_o249 (k0 := k0)
    have c := I.2.2 k hk
    have e105 := fc_at K.2.2.2.2 hg (show k < 729 by omega)
    rw [(c.2.2 k0').2] at e105
    obtain ⟨y1, p1, d1, l1⟩ := fc_putX (fl_o215 (k0 := k0)) hg (show d < 6 by omega) (Int64.ofNat (S.2.1 k).2.2.2.2)
    have g1 := fl_df_g hg d1
    have I1 : fl_cs y1 g S := fl_cs_df I d1 (by omega) (fun q j z1 z2 => by omega)
    have e24 := fc_int K.2.2.2.1 g1 (show k < 729 by omega)
    rw [((I1.2.2 k hk).2.2 k0').1, fl_o32] at e24
    obtain ⟨y, ey, dy, cy⟩ := fc_217l J d (S.2.1 k).2.2.2.1 y1 g1 I1 (by omega) (by omega)
    refine ⟨y, ?_, fl_df_tr (fl_df_mo d1 (fun q j z => by omega)) (fl_df_mo dy (fun q j z => by omega)), fun j hj => ?_⟩
    · have c1 := K.2.2.2.1.1
      have c5 := K.2.2.2.2.1
      have c0 := (fl_o215 (k0 := k0)).1
      clear J I I1 K c d1 dy cy b l1
      rw [fl_dec1, fbC_217_18]
      simp (disch := omega) only [hg.1, hg.2, g1.1, g1.2, o214, c0, c1, c5, fl_lit, fl_nadd, fl_nmul, fl_ndiv, fl_nsub, fl_msub, fl_nle, fl_nlt, fl_neq, fl_nclamp, fl_nin, fl_ltT, fl_ltF, fl_leT, fl_leF, fl_eqT, fl_eqF, decide_true, decide_false, Bool.true_and, Bool.and_true, Bool.false_and, Bool.and_false, if_true, if_false, Bool.false_eq_true, Option.isSome_some, Option.getD_some, not_true_eq_false, not_false_eq_true, Option.toList_some, Option.toList_none, List.cons_append, List.nil_append, e105, fbP_217_38, p1, fbP_217_41, e24, fbP_217_50, ey]
    · rw [fl_rwS]
      by_cases jd : j = d
      · subst jd
        rw [fl_up_self, (dy.2.2.2 216 _ (by omega)).2, l1, fl_up_self]
      · rw [fl_up_ne jd]
        exact cy j (by omega)
theorem fc_217 (hg : fl_g k0 h) (J : fl_J0 g S) (I : fl_cs h g S) {i n : Nat} (hi : i < S.1) (d6 : (S.2.1 i).2.2.1 < 6) (hn : n < 16) : ∃ y, fl_cl fl_C 217 [.ref 214, .int (Int32.ofNat i), .int (Int32.ofNat (S.2.1 i).2.2.1), .int (Int32.ofNat n)] h = some (some none, y) ∧ fl_df (fun q _ => q = 216) h y ∧ ∀ j, j < (fl_ans S.2.1 i n).1 → fl_l y 216 j = Int64.ofNat ((fl_ans S.2.1 i n).2 j) := by
  have o214 := fl_o214 (k0 := k0)
  have c0 := (fl_o215 (k0 := k0)).1
  obtain ⟨y1, p1, d1, l1⟩ := fc_putX (fl_o215 (k0 := k0)) hg d6 (Int32.toInt64 (Int32.ofNat n))
  have g1 := fl_df_g hg d1
  obtain ⟨y, ey, dy, cy⟩ := fc_217l J (S.2.1 i).2.2.1 i y1 g1 (fl_cs_df I d1 (by omega) (fun q j z1 z2 => by omega)) hi rfl
  refine ⟨y, ?_, fl_df_tr (fl_df_mo d1 (fun q j z => z.1)) (fl_df_mo dy (fun q j z => z.1)), fun j hj => ?_⟩
  · have sb : Int32.ofNat (S.2.1 i).2.2.1 - Int32.ofNat 1 = Int32.ofNat (S.2.1 i).2.2.1 + -Int32.ofNat 1 := Int32.sub_eq_add_neg _ _
    clear J I d1 dy cy l1
    generalize (S.2.1 i).2.2.1 = D at *
    rw [fbE_217]
    simp only [hg.1, hg.2, o214, c0, fl_lit, fl_nadd, fl_nmul, fl_ndiv, fl_nsub, fl_msub, fl_nle, fl_nlt, fl_neq, fl_nclamp, fl_nin, fl_ltT, fl_ltF, fl_leT, fl_leF, fl_eqT, fl_eqF, decide_true, decide_false, Bool.true_and, Bool.and_true, Bool.false_and, Bool.and_false, if_true, if_false, Bool.false_eq_true, Option.isSome_some, Option.getD_some, not_true_eq_false, not_false_eq_true, Option.toList_some, Option.toList_none, List.cons_append, List.nil_append, p1, fbP_217_13, sb, ey]
  · unfold fl_ans at hj ⊢
    dsimp only at hj ⊢
    by_cases jd : j = (S.2.1 i).2.2.1
    · subst jd
      rw [fl_up_self, (dy.2.2.2 216 _ (by omega)).2, l1, fl_up_self, fl_i64 (by omega)]
    · rw [fl_up_ne jd]
      exact cy j (by omega)
end
