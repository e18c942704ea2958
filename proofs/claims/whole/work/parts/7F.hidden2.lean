/-! hidden: the reference's side; both alike -/
section
variable {k0 : Nat → Nat × Nat} {h : fl_H} {g ρ : Nat → Nat} {c : Nat × Nat × Nat × Bool} {s : Int64}
theorem fo_hidden_b (hg : fl_g k0 h) (m : fl_mm h g) (w : fl_wf g) : ∃ y, fl_df fl_scr h y ∧ fl_cl fl_C 228 [.ref 259] h = some (some (some (.int (Int32.ofNat (fl_cnt (fl_hb (fl_hno g (2 * (g 0 + g 2)))) 64)))), fl_ra3 y (fl_hno g (2 * (g 0 + g 2))) (fl_hid g (2 * (g 0 + g 2))).1 (Int32.toInt64 (Int32.ofNat (fl_hid g (2 * (g 0 + g 2))).2))) := by
  have w0 : g 0 ≤ 12 := w.1.2.2.2.1
  have w2 : g 2 ≤ 20 := w.1.2.2.2.2.1
  have d0 : fl_df fl_scr h (fl_wi h 259 (fl_up (fl_i h 259) 0 (Int32.ofNat 0))) := fl_up0_df (by omega)
  have st : fl_cl fl_C 228 [.ref 259] h = fl_Rn fl_C 228 15 [some (.ref 259), some (.long (fl_hno g 0)), none, some (.long (fl_hid g 0).1), none, some (.int (Int32.ofNat (fl_hid g 0).2)), some (.int (Int32.ofNat 0))] [] (fl_wi h 259 (fl_up (fl_i h 259) 0 (Int32.ofNat 0))) := by
    rw [show fl_hno g 0 = 0 from rfl, show fl_hid g 0 = (0, 0) from rfl]
    clear w m d0
    rw [fbE_228]
    simp (disch := omega) only [fl_si_wi, hg.1, fl_KM, fl_RM, fl_lit, fl_nadd, fl_nmul, fl_ndiv, fl_nsub, fl_msub, fl_nle, fl_nlt, fl_neq, fl_nclamp, fl_nin, fl_ltT, fl_ltF, fl_leT, fl_leF, fl_eqT, fl_eqF, decide_true, decide_false, Bool.true_and, Bool.and_true, Bool.false_and, Bool.and_false, if_true, if_false, Bool.false_eq_true, Option.isSome_some, Option.getD_some, not_true_eq_false, not_false_eq_true, Option.toList_some, Option.toList_none, List.cons_append, List.nil_append, fbC_228_5]
  rw [st]
  clear st
  generalize fl_wi h 259 (fl_up (fl_i h 259) 0 (Int32.ofNat 0)) = H at *
  suffices fl_to (fl_Rn fl_C 228 15 [some (.ref 259), some (.long (fl_hno g 0)), none, some (.long (fl_hid g 0).1), none, some (.int (Int32.ofNat (fl_hid g 0).2)), some (.int (Int32.ofNat 0))] [] H) (fun v z => v = some (.int (Int32.ofNat (fl_cnt (fl_hb (fl_hno g (2 * (g 0 + g 2)))) 64))) ∧ ∃ y, fl_df fl_scr h y ∧ z = fl_ra3 y (fl_hno g (2 * (g 0 + g 2))) (fl_hid g (2 * (g 0 + g 2))).1 (Int32.toInt64 (Int32.ofNat (fl_hid g (2 * (g 0 + g 2))).2))) by
    obtain ⟨v, z, e, rfl, y, dy, rfl⟩ := this
    exact ⟨y, dy, e⟩
  refine fl_loopT (F := fun f x => fl_Rn fl_C 228 15 [some (.ref 259), some (.long (fl_hno g f)), none, some (.long (fl_hid g f).1), none, some (.int (Int32.ofNat (fl_hid g f).2)), some (.int (Int32.ofNat f))] [] x) (fun _ x => fl_df fl_scr h x) (2 * (g 0 + g 2)) ?_ ?_ 0 H (Nat.zero_le _) d0
  · intro x dx
    have gx := fl_df_g hg dx
    have e88 := fr_88 gx (fl_mm_df m dx (fun j => by omega))
    have t1 := fr_ra1 gx (fl_hno g (2 * (g 0 + g 2)))
    have t2 := fr_ra2 gx (fl_hno g (2 * (g 0 + g 2))) (fl_hid g (2 * (g 0 + g 2))).1
    have t3 := fr_ra3 gx (fl_hno g (2 * (g 0 + g 2))) (fl_hid g (2 * (g 0 + g 2))).1 (Int32.toInt64 (Int32.ofNat (fl_hid g (2 * (g 0 + g 2))).2))
    have ga := fl_a0_g gx
    have ga1 := fl_df_g gx (fl_ra1_df (h := x) (A := fl_hno g (2 * (g 0 + g 2))))
    have ga2 := fl_df_g gx (fl_ra2_df (h := x) (A := fl_hno g (2 * (g 0 + g 2))) (B := (fl_hid g (2 * (g 0 + g 2))).1))
    have e144 := fr_144 (h := fl_ra3 x (fl_hno g (2 * (g 0 + g 2))) (fl_hid g (2 * (g 0 + g 2))).1 (Int32.toInt64 (Int32.ofNat (fl_hid g (2 * (g 0 + g 2))).2))) (fl_hno g (2 * (g 0 + g 2)))
    have fin : fl_Rn fl_C 228 15 [some (.ref 259), some (.long (fl_hno g (2 * (g 0 + g 2)))), none, some (.long (fl_hid g (2 * (g 0 + g 2))).1), none, some (.int (Int32.ofNat (fl_hid g (2 * (g 0 + g 2))).2)), some (.int (Int32.ofNat (2 * (g 0 + g 2))))] [] x = some (some (some (.int (Int32.ofNat (fl_cnt (fl_hb (fl_hno g (2 * (g 0 + g 2)))) 64)))), fl_ra3 x (fl_hno g (2 * (g 0 + g 2))) (fl_hid g (2 * (g 0 + g 2))).1 (Int32.toInt64 (Int32.ofNat (fl_hid g (2 * (g 0 + g 2))).2))) := by
      clear w m d0 dx
      generalize fl_ra3 x (fl_hno g (2 * (g 0 + g 2))) (fl_hid g (2 * (g 0 + g 2))).1 (Int32.toInt64 (Int32.ofNat (fl_hid g (2 * (g 0 + g 2))).2)) = H3 at *
      generalize fl_ra2 x (fl_hno g (2 * (g 0 + g 2))) (fl_hid g (2 * (g 0 + g 2))).1 = H2 at *
      generalize fl_ra1 x (fl_hno g (2 * (g 0 + g 2))) = H1 at *
      generalize fl_cnt (fl_hb (fl_hno g (2 * (g 0 + g 2)))) 64 = CC at *
      generalize fl_hno g (2 * (g 0 + g 2)) = A at *
      generalize (fl_hid g (2 * (g 0 + g 2))).1 = B at *
      generalize (fl_hid g (2 * (g 0 + g 2))).2 = C at *
      rw [fbC_228_15]
      simp (disch := omega) only [fl_si_wi, gx.1, ga.1, ga1.1, ga2.1, fl_KM, fl_RM, fl_lit, fl_nadd, fl_nmul, fl_ndiv, fl_nsub, fl_msub, fl_nle, fl_nlt, fl_neq, fl_nclamp, fl_nin, fl_ltT, fl_ltF, fl_leT, fl_leF, fl_eqT, fl_eqF, decide_true, decide_false, Bool.true_and, Bool.and_true, Bool.false_and, Bool.and_false, if_true, if_false, Bool.false_eq_true, Option.isSome_some, Option.getD_some, not_true_eq_false, not_false_eq_true, Option.toList_some, Option.toList_none, List.cons_append, List.nil_append, e88, fbP_228_21, fl_a0_w, fbC_228_105, t1, fbP_228_110, t2, fbP_228_115, t3, fbP_228_122, e144, fbP_228_126]
    exact ⟨_, _, fin, rfl, x, dx, rfl⟩
  · intro f x hf dx hy
    have gx := fl_df_g hg dx
    have mx := fl_mm_df m dx (fun j => by omega)
    have e88 := fr_88 gx mx
    obtain ⟨v, y, e225, dy, F⟩ := fr_225 gx mx w hf
    have v1 := fl_rz_len w F
    subst v1
    have b6 := fl_len_6 w f
    have h6 := fl_hid_6 w f
    have gy := fl_df_g gx dy
    have fin : fl_Rn fl_C 228 15 [some (.ref 259), some (.long (fl_hno g f)), none, some (.long (fl_hid g f).1), none, some (.int (Int32.ofNat (fl_hid g f).2)), some (.int (Int32.ofNat f))] [] x = fl_Rn fl_C 228 15 [some (.ref 259), some (.long (fl_hno g (f + 1))), none, some (.long (fl_hid g (f + 1)).1), none, some (.int (Int32.ofNat (fl_hid g (f + 1)).2)), some (.int (Int32.ofNat (f + 1)))] [] y := by
      have hy' : fl_len g f = 0 → fl_hno g (f + 1) = fl_hno g f ||| fl_bt f := fl_hno_y
      have hn' : fl_len g f ≠ 0 → fl_hno g (f + 1) = fl_hno g f ||| 0 := fl_hno_n
      rw [show fl_hid g (f + 1) = if fl_len g f = 0 then fl_hid g f else if fl_len g f < (fl_hid g f).2 then fl_hid g f else if fl_len g f = (fl_hid g f).2 then ((fl_hid g f).1 ||| fl_bt f, fl_len g f) else (fl_bt f, fl_len g f) from rfl]
      have e50 := fr_50n (h := y) (a := (fl_hid g f).2) (b := fl_len g f) (by omega) (by omega)
      have e50m : fl_cl fl_C 50 [.int (Int32.ofNat (fl_hid g f).2), .int (-Int32.ofNat 1)] y = some (some (some (.int (Int32.ofNat (fl_hid g f).2))), y) := by
        have := fr_50m (h := y) (a := (fl_hid g f).2 + 1) (b := 0) (by omega) (by omega)
        rw [fl_m1_s, Nat.max_eq_left (by omega), fl_m1_s] at this
        exact this
      have q1 : (-Int32.ofNat 1).toInt = -1 := by decide
      have lm : ∀ n, n < 100 → (-Int32.ofNat 1 ≤ Int32.ofNat n) = True := fun n hn => by
        refine eq_true ?_
        rw [Int32.le_iff_toInt_le, fl_toI (by omega)]
        omega
      have em : ∀ n, n < 100 → (-Int32.ofNat 1 = Int32.ofNat n) = False := fun n hn => by
        refine eq_false (fun z => ?_)
        have z2 := congrArg Int32.toInt z
        rw [fl_toI (by omega)] at z2
        omega
      have z0 : (Int32.ofNat 0 ≤ -Int32.ofNat 1) = False := eq_false (by decide)
      clear w m d0 dx dy F hy mx
      generalize fl_hno g (f + 1) = A1 at *
      generalize fl_hno g f = A at *
      generalize fl_len g f = L at *
      generalize fl_hid g f = HG at *
      by_cases c0 : L = 0
      · rw [if_pos c0] at e225
        have lm1 := lm HG.2 (by omega)
        have em1 := em HG.2 (by omega)
        rw [if_pos c0, hy' c0, fbC_228_15]
        simp (disch := omega) only [gx.1, fl_KM, fl_RM, fl_lit, fl_nadd, fl_nmul, fl_ndiv, fl_nsub, fl_msub, fl_nle, fl_nlt, fl_neq, fl_nclamp, fl_nin, fl_ltT, fl_ltF, fl_leT, fl_leF, fl_eqT, fl_eqF, decide_true, decide_false, Bool.true_and, Bool.and_true, Bool.false_and, Bool.and_false, if_true, if_false, Bool.false_eq_true, Option.isSome_some, Option.getD_some, not_true_eq_false, not_false_eq_true, Option.toList_some, Option.toList_none, List.cons_append, List.nil_append, e88, fbP_228_21, e225, fbP_228_30, z0, lm1, em1, fbC_228_83, e50m, fbP_228_92]
      · rw [if_neg c0] at e225
        rw [if_neg c0, hn' c0]
        by_cases c1 : L < HG.2
        · rw [Nat.max_eq_left (by omega)] at e50
          rw [if_pos c1, fbC_228_15]
          simp (disch := omega) only [gx.1, fl_KM, fl_RM, fl_lit, fl_nadd, fl_nmul, fl_ndiv, fl_nsub, fl_msub, fl_nle, fl_nlt, fl_neq, fl_nclamp, fl_nin, fl_ltT, fl_ltF, fl_leT, fl_leF, fl_eqT, fl_eqF, decide_true, decide_false, Bool.true_and, Bool.and_true, Bool.false_and, Bool.and_false, if_true, if_false, Bool.false_eq_true, Option.isSome_some, Option.getD_some, not_true_eq_false, not_false_eq_true, Option.toList_some, Option.toList_none, List.cons_append, List.nil_append, e88, fbP_228_21, e225, fbP_228_30, fbC_228_83, e50, fbP_228_92]
        · rw [Nat.max_eq_right (by omega)] at e50
          rw [if_neg c1]
          by_cases c2 : L = HG.2
          · rw [if_pos c2, fbC_228_15]
            simp (disch := omega) only [gx.1, fl_KM, fl_RM, fl_lit, fl_nadd, fl_nmul, fl_ndiv, fl_nsub, fl_msub, fl_nle, fl_nlt, fl_neq, fl_nclamp, fl_nin, fl_ltT, fl_ltF, fl_leT, fl_leF, fl_eqT, fl_eqF, decide_true, decide_false, Bool.true_and, Bool.and_true, Bool.false_and, Bool.and_false, if_true, if_false, Bool.false_eq_true, Option.isSome_some, Option.getD_some, not_true_eq_false, not_false_eq_true, Option.toList_some, Option.toList_none, List.cons_append, List.nil_append, e88, fbP_228_21, e225, fbP_228_30, e50, fbP_228_92]
          · rw [if_neg c2, fbC_228_15]
            simp (disch := omega) only [gx.1, fl_KM, fl_RM, fl_lit, fl_nadd, fl_nmul, fl_ndiv, fl_nsub, fl_msub, fl_nle, fl_nlt, fl_neq, fl_nclamp, fl_nin, fl_ltT, fl_ltF, fl_leT, fl_leF, fl_eqT, fl_eqF, decide_true, decide_false, Bool.true_and, Bool.and_true, Bool.false_and, Bool.and_false, if_true, if_false, Bool.false_eq_true, Option.isSome_some, Option.getD_some, not_true_eq_false, not_false_eq_true, Option.toList_some, Option.toList_none, List.cons_append, List.nil_append, e88, fbP_228_21, e225, fbP_228_30, e50, fbP_228_92]
    rw [fin]
    exact hy y (fl_df_tr dx dy)
theorem fo_tell3 (I : fl_Inv k0 c h) {y z : fl_H} {A B C : Int64} {v : Int32} {x m : Nat} {as bs : List Value} (a : fl_cl fl_C x (.ref 0 :: as) h = some (some (some (.int v)), fl_ca3 y A B C)) (dy : fl_df (fun q _ => 144 ≤ q ∧ q ≤ 258) h y) (b : fl_cl fl_C m (.ref 259 :: bs) (fl_ca3 y A B C) = some (some (some (.int v)), fl_ra3 z A B C)) (dz : fl_df fl_scr (fl_ca3 y A B C) z) : fl_both k0 c x m as bs h := by
  obtain ⟨rn, rv, iO⟩ := I.2.2.2.1
  have d1 := fl_ca3_df (h := y) (A := A) (B := B) (C := C)
  have v1 := fl_ca3_v (h := y) (A := A) (B := B) (C := C)
  have d2 := fl_ra3_df (h := z) (A := A) (B := B) (C := C)
  have v2 := fl_ra3_v (h := z) (A := A) (B := B) (C := C)
  have dm : fl_df (fun q j => fl_scr q j ∨ fl_Sae q j) (fl_ca3 y A B C) (fl_ra3 z A B C) := fl_df_tr (fl_df_mo dz (fun q j z => Or.inl z)) (fl_df_mo d2 (fun q j z => Or.inr z))
  refine ⟨_, _, _, a, b, fl_Inv_sq I (fl_df_tr (fl_df_mo dy (fun q j z => Or.inr (Or.inr (Or.inr (Or.inr (Or.inr z)))))) (fl_df_tr (fl_df_mo d1 (fun q j z => fl_Sc6_SQ z)) (fl_df_tr (fl_df_mo dz (fun q j z => Or.inl z)) (fl_df_mo d2 (fun q j z => fl_Sae_SQ z))))) ⟨3, fun j => if j = 0 then A else if j = 1 then B else C, by omega, v2.1, by rw [(dm.2.2.2 4 1 (by omega)).1, (d1.2.2.2 4 1 (by omega)).1, (dy.2.2.2 4 1 (by omega)).1]; exact iO.2.2.1, by rw [(dm.2.2.2 4 2 (by omega)).1]; exact v1.1, fun j hj => ?_⟩⟩
  rcases (show j = 0 ∨ j = 1 ∨ j = 2 by omega) with e | e | e <;> subst e
  · exact ⟨v2.2.1, by rw [(dm.2.2.2 6 0 (by omega)).2]; exact v1.2.1⟩
  · exact ⟨v2.2.2.1, by rw [(dm.2.2.2 6 1 (by omega)).2]; exact v1.2.2.1⟩
  · exact ⟨v2.2.2.2, by rw [(dm.2.2.2 6 2 (by omega)).2]; exact v1.2.2.2⟩
theorem fo_hidden (I : fl_Inv k0 c h) : fl_both k0 c 227 228 [] [] h := by
  obtain ⟨rn, rv, iO⟩ := I.2.2.2.1
  obtain ⟨g, g1, g2, b1, b2, r, s1, s2, iG⟩ := I.2.2.2.2.2
  have w := iG.1
  obtain ⟨y, dy, a⟩ := fo_hidden_a I.1 w iG.2.2.2.1 iO.2.2.1
  have d1 : fl_df (fun q j => (144 ≤ q ∧ q ≤ 258) ∨ fl_Sc6 q j) h (fl_ca3 y (fl_hno g (2 * (g 0 + g 2))) (fl_hid g (2 * (g 0 + g 2))).1 (Int32.toInt64 (Int32.ofNat (fl_hid g (2 * (g 0 + g 2))).2))) := fl_df_tr (fl_df_mo dy (fun q j z => Or.inl z)) (fl_df_mo fl_ca3_df (fun q j z => Or.inr z))
  obtain ⟨z, dz, b⟩ := fo_hidden_b (fl_df_g I.1 d1) (fl_mm_df iG.2.1 d1 (fun j => by omega)) w
  exact fo_tell3 I a dy b dz
end
