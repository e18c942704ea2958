/-! A SEARCH, the reference's side: codes, rows, who is found -/
/-- what the reference keeps of a search -/
abbrev fl_rq (h : fl_H) (g : Nat → Nat) (S : fl_Se) : Prop := fl_i h 259 29 = Int32.ofNat S.1 ∧ ∀ k, k < S.1 → fl_i h 277 k = Int32.ofNat (fl_rp g (S.2.1 k)) ∧ fl_i h 280 k = Int32.ofNat (S.2.1 k).2.2.1 ∧ (k = 0 → fl_i h 278 k = -Int32.ofNat 1) ∧ (0 < k → fl_i h 278 k = Int32.ofNat (S.2.1 k).2.2.2.1 ∧ fl_i h 279 k = Int32.ofNat (S.2.1 k).2.2.2.2)
section
variable {k0 : Nat → Nat × Nat} {h : fl_H} {g ρ : Nat → Nat} {S : fl_Se}
theorem fr_220 (hg : fl_g k0 h) (m : fl_mm h g) (w : fl_wf g) (hr : ∀ k, k < g 0 → g (4 + k) = 8 → fl_i h 267 k = Int32.ofNat (ρ k)) : fl_cl fl_C 220 [.ref 259] h = some (some (some (.int (Int32.ofNat (fl_cr g ρ)))), h) := by
  have w0 : g 0 ≤ 12 := w.1.2.2.2.1
  have wb : ∀ j, j < 126 → g j < 256 := w.2.2.2.2.2.2.2.2.1
  have e95 := fr_95 hg m
  have lp := fl_iter (fun k => fl_Rn fl_C 220 4 [some (.ref 259), some (.int (Int32.ofNat (fl_cR g ρ k))), some (.int (Int32.ofNat k))] [] h) (g 0) (fun k hk => by
    have e97 := fr_97 hg m wb (show k < 12 by omega)
    by_cases e : g (4 + k) = 8
    · rw [if_pos e] at e97
      have r := hr k hk e
      rw [fl_cR, if_pos e]
      clear m w wb hr
      rw [fbC_220_4]
      simp (disch := omega) only [hg.1, hg.2, fl_KM, fl_RM, fl_lit, fl_nadd, fl_nmul, fl_ndiv, fl_nsub, fl_msub, fl_nle, fl_nlt, fl_neq, fl_nclamp, fl_nin, fl_ltT, fl_ltF, fl_leT, fl_leF, fl_eqT, fl_eqF, decide_true, decide_false, Bool.true_and, Bool.and_true, Bool.false_and, Bool.and_false, if_true, if_false, Bool.false_eq_true, Option.isSome_some, Option.getD_some, not_true_eq_false, not_false_eq_true, Option.toList_some, Option.toList_none, List.cons_append, List.nil_append, e95, fbP_220_9, e97, fbP_220_17, r, fbC_220_29]
    · rw [if_neg e] at e97
      rw [fl_cR, if_neg e]
      clear m w wb hr
      rw [fbC_220_4]
      simp (disch := omega) only [hg.1, hg.2, fl_KM, fl_RM, fl_lit, fl_nadd, fl_nmul, fl_ndiv, fl_nsub, fl_msub, fl_nle, fl_nlt, fl_neq, fl_nclamp, fl_nin, fl_ltT, fl_ltF, fl_leT, fl_leF, fl_eqT, fl_eqF, decide_true, decide_false, Bool.true_and, Bool.and_true, Bool.false_and, Bool.and_false, if_true, if_false, Bool.false_eq_true, Option.isSome_some, Option.getD_some, not_true_eq_false, not_false_eq_true, Option.toList_some, Option.toList_none, List.cons_append, List.nil_append, e95, fbP_220_9, e97, fbP_220_17])
  have en : fl_Rn fl_C 220 4 [some (.ref 259), some (.int (Int32.ofNat (fl_cR g ρ (g 0)))), some (.int (Int32.ofNat (g 0)))] [] h = some (some (some (.int (Int32.ofNat (fl_cr g ρ)))), h) := by
    clear m w wb hr lp
    rw [fbC_220_4]
    simp (disch := omega) only [hg.1, hg.2, fl_KM, fl_RM, fl_lit, fl_nadd, fl_nmul, fl_ndiv, fl_nsub, fl_msub, fl_nle, fl_nlt, fl_neq, fl_nclamp, fl_nin, fl_ltT, fl_ltF, fl_leT, fl_leF, fl_eqT, fl_eqF, decide_true, decide_false, Bool.true_and, Bool.and_true, Bool.false_and, Bool.and_false, if_true, if_false, Bool.false_eq_true, Option.isSome_some, Option.getD_some, not_true_eq_false, not_false_eq_true, Option.toList_some, Option.toList_none, List.cons_append, List.nil_append, e95, fbP_220_9]
  rw [fbE_220]
  exact lp.trans en
theorem fr_221l (w : fl_wf g) (r2 : fl_r2 g ρ) : ∀ k (h : fl_H), fl_g k0 h → fl_mm h g → k ≤ g 0 → ∃ y, fl_Rn fl_C 221 9 [some (.ref 259), none, some (.int (Int32.ofNat (fl_cR g ρ k))), some (.int (Int32.ofNat k + -Int32.ofNat 1))] [] h = some (some none, y) ∧ fl_df (fun q j => q = 267 ∧ j < k) h y ∧ ∀ j, j < k → g (4 + j) = 8 → fl_i y 267 j = Int32.ofNat (ρ j)
  | 0, h, hg, m, hk => by
    refine ⟨h, ?_, fl_df_rfl, fun j z => by omega⟩
    have z : (Int32.ofNat 0 + -Int32.ofNat 1 < Int32.ofNat 0) = True := eq_true (by decide)
    rw [fbC_221_9]
    simp (disch := omega) only [fl_lit, fl_nadd, fl_nmul, fl_ndiv, fl_nsub, fl_msub, fl_nle, fl_nlt, fl_neq, fl_nclamp, fl_nin, fl_ltT, fl_ltF, fl_leT, fl_leF, fl_eqT, fl_eqF, decide_true, decide_false, Bool.true_and, Bool.and_true, Bool.false_and, Bool.and_false, if_true, if_false, Bool.false_eq_true, Option.isSome_some, Option.getD_some, not_true_eq_false, not_false_eq_true, Option.toList_some, Option.toList_none, List.cons_append, List.nil_append, z]
  | k + 1, h, hg, m, hk => by
    have w0 : g 0 ≤ 12 := w.1.2.2.2.1
    have wb : ∀ j, j < 126 → g j < 256 := w.2.2.2.2.2.2.2.2.1
    have e97 := fr_97 hg m wb (show k < 12 by omega)
    by_cases e : g (4 + k) = 8
    · rw [if_pos e] at e97
      have b := r2 k (by omega)
      have lt := fl_cR_27 w r2 (show k ≤ g 0 by omega)
      have m1 : (3 * fl_cR g ρ k + ρ k) % 3 = ρ k := by omega
      have m2 : (3 * fl_cR g ρ k + ρ k) / 3 = fl_cR g ρ k := by omega
      have m3 : 3 * fl_cR g ρ k + ρ k - fl_cR g ρ k * 3 = ρ k := by omega
      have d1 : fl_df (fun q j => q = 267 ∧ j = k) h (fl_wi h 267 (fl_up (fl_i h 267) k (Int32.ofNat (ρ k)))) := fl_df_wiu fl_df_rfl ⟨rfl, rfl⟩
      have i1 : fl_i (fl_wi h 267 (fl_up (fl_i h 267) k (Int32.ofNat (ρ k)))) 267 k = Int32.ofNat (ρ k) := by rw [fl_i_wi, if_pos rfl, fl_up_self]
      generalize hH : fl_wi h 267 (fl_up (fl_i h 267) k (Int32.ofNat (ρ k))) = H at *
      have gH := fl_df_g hg d1
      obtain ⟨y, ey, dy, cy⟩ := fr_221l w r2 k H gH (fun j hj => by rw [(d1.2.2.2 262 j (by omega)).1]; exact m j hj) (by omega)
      refine ⟨y, ?_, fl_df_tr (fl_df_mo d1 (fun q j z => by omega)) (fl_df_mo dy (fun q j z => by omega)), fun j hj h8 => ?_⟩
      · rw [fl_dec1, fl_cR, if_pos e]
        have lt3 : 3 * fl_cR g ρ k + ρ k < 100 := by omega
        generalize 3 * fl_cR g ρ k + ρ k = C at *
        clear m w wb r2 d1 cy dy
        rw [fbC_221_9]
        simp (disch := omega) only [fl_si_wi, hg.1, hg.2, gH.1, gH.2, fl_KM, fl_RM, fl_lit, fl_nadd, fl_nmul, fl_ndiv, fl_nsub, fl_msub, fl_nle, fl_nlt, fl_neq, fl_nclamp, fl_nin, fl_ltT, fl_ltF, fl_leT, fl_leF, fl_eqT, fl_eqF, decide_true, decide_false, Bool.true_and, Bool.and_true, Bool.false_and, Bool.and_false, if_true, if_false, Bool.false_eq_true, Option.isSome_some, Option.getD_some, not_true_eq_false, not_false_eq_true, Option.toList_some, Option.toList_none, List.cons_append, List.nil_append, e97, fbP_221_18, m2, m3, hH, fbC_221_30, fbC_221_34, ey]
      · by_cases jk : j = k
        · subst jk
          rw [(dy.2.2.2 267 _ (by omega)).1]; exact i1
        · exact cy j (by omega) h8
    · rw [if_neg e] at e97
      obtain ⟨y, ey, dy, cy⟩ := fr_221l w r2 k h hg m (by omega)
      refine ⟨y, ?_, fl_df_mo dy (fun q j z => by omega), fun j hj h8 => ?_⟩
      · rw [fl_dec1, fl_cR, if_neg e]
        clear m w wb r2 cy dy
        rw [fbC_221_9]
        simp (disch := omega) only [hg.1, hg.2, fl_KM, fl_RM, fl_lit, fl_nadd, fl_nmul, fl_ndiv, fl_nsub, fl_msub, fl_nle, fl_nlt, fl_neq, fl_nclamp, fl_nin, fl_ltT, fl_ltF, fl_leT, fl_leF, fl_eqT, fl_eqF, decide_true, decide_false, Bool.true_and, Bool.and_true, Bool.false_and, Bool.and_false, if_true, if_false, Bool.false_eq_true, Option.isSome_some, Option.getD_some, not_true_eq_false, not_false_eq_true, Option.toList_some, Option.toList_none, List.cons_append, List.nil_append, e97, fbP_221_18, fbC_221_34, ey]
      · by_cases jk : j = k
        · subst jk; exact absurd h8 e
        · exact cy j (by omega) h8
theorem fr_221 (hg : fl_g k0 h) (m : fl_mm h g) (w : fl_wf g) (r2 : fl_r2 g ρ) : ∃ y, fl_cl fl_C 221 [.ref 259, .int (Int32.ofNat (fl_cr g ρ))] h = some (some none, y) ∧ fl_df (fun q _ => q = 267) h y ∧ ∀ j, j < g 0 → g (4 + j) = 8 → fl_i y 267 j = Int32.ofNat (ρ j) := by
  have e95 := fr_95 hg m
  obtain ⟨y, ey, dy, cy⟩ := fr_221l w r2 (g 0) h hg m (Nat.le_refl _)
  have sb : Int32.ofNat (g 0) - Int32.ofNat 1 = Int32.ofNat (g 0) + -Int32.ofNat 1 := Int32.sub_eq_add_neg _ _
  refine ⟨y, ?_, fl_df_mo dy (fun q j z => z.1), cy⟩
  clear m w cy dy r2
  rw [fbE_221]
  simp only [hg.1, hg.2, fl_KM, fl_RM, fl_lit, fl_nadd, fl_nmul, fl_ndiv, fl_nsub, fl_msub, fl_nle, fl_nlt, fl_neq, fl_nclamp, fl_nin, fl_ltT, fl_ltF, fl_leT, fl_leF, fl_eqT, fl_eqF, decide_true, decide_false, Bool.true_and, Bool.and_true, Bool.false_and, Bool.and_false, if_true, if_false, Bool.false_eq_true, Option.isSome_some, Option.getD_some, not_true_eq_false, not_false_eq_true, Option.toList_some, Option.toList_none, List.cons_append, List.nil_append, e95, fbP_221_6, sb, ey]
theorem fr_224 (hg : fl_g k0 h) (I : fl_rq h g S) (s9 : S.1 ≤ 729) (lt : ∀ k, k < S.1 → fl_rp g (S.2.1 k) < 729) {C : Nat} (hC : C < 729) : fl_cl fl_C 224 [.ref 259, .int (Int32.ofNat C)] h = some (some (some (.int (if fl_any (fun k => decide (fl_rp g (S.2.1 k) = C)) S.1 = true then Int32.ofNat 1 else Int32.ofNat 0))), h) := by
  have i29 := I.1
  have lp := fl_find (fun k => fl_Rn fl_C 224 2 [some (.ref 259), some (.int (Int32.ofNat C)), some (.int (Int32.ofNat k))] [] h) (some (some (some (.int (Int32.ofNat 1))), h)) (fun k => decide (fl_rp g (S.2.1 k) = C)) S.1 (fun k hk => by
    have c := (I.2 k hk).1
    have l := lt k hk
    generalize fl_rp g (S.2.1 k) = P at *
    clear I lt
    by_cases q : P = C
    · rw [if_pos (decide_eq_true q), fbC_224_2]
      simp (disch := omega) only [hg.1, hg.2, fl_KM, fl_RM, fl_lit, fl_nadd, fl_nmul, fl_ndiv, fl_nsub, fl_msub, fl_nle, fl_nlt, fl_neq, fl_nclamp, fl_nin, fl_ltT, fl_ltF, fl_leT, fl_leF, fl_eqT, fl_eqF, decide_true, decide_false, Bool.true_and, Bool.and_true, Bool.false_and, Bool.and_false, if_true, if_false, Bool.false_eq_true, Option.isSome_some, Option.getD_some, not_true_eq_false, not_false_eq_true, Option.toList_some, Option.toList_none, List.cons_append, List.nil_append, i29, c, fbC_224_16]
    · rw [if_neg (by rw [decide_eq_false q]; decide), fbC_224_2]
      simp (disch := omega) only [hg.1, hg.2, fl_KM, fl_RM, fl_lit, fl_nadd, fl_nmul, fl_ndiv, fl_nsub, fl_msub, fl_nle, fl_nlt, fl_neq, fl_nclamp, fl_nin, fl_ltT, fl_ltF, fl_leT, fl_leF, fl_eqT, fl_eqF, decide_true, decide_false, Bool.true_and, Bool.and_true, Bool.false_and, Bool.and_false, if_true, if_false, Bool.false_eq_true, Option.isSome_some, Option.getD_some, not_true_eq_false, not_false_eq_true, Option.toList_some, Option.toList_none, List.cons_append, List.nil_append, i29, c, fbC_224_16])
  have en : fl_Rn fl_C 224 2 [some (.ref 259), some (.int (Int32.ofNat C)), some (.int (Int32.ofNat S.1))] [] h = some (some (some (.int (Int32.ofNat 0))), h) := by
    clear I lt lp
    rw [fbC_224_2]
    simp (disch := omega) only [hg.1, hg.2, fl_KM, fl_RM, fl_lit, fl_nadd, fl_nmul, fl_ndiv, fl_nsub, fl_msub, fl_nle, fl_nlt, fl_neq, fl_nclamp, fl_nin, fl_ltT, fl_ltF, fl_leT, fl_leF, fl_eqT, fl_eqF, decide_true, decide_false, Bool.true_and, Bool.and_true, Bool.false_and, Bool.and_false, if_true, if_false, Bool.false_eq_true, Option.isSome_some, Option.getD_some, not_true_eq_false, not_false_eq_true, Option.toList_some, Option.toList_none, List.cons_append, List.nil_append, i29]
  rw [fbE_224]
  refine lp.trans ?_
  split
  · rfl
  · exact en
theorem fr_223l (J : fl_J0 g S) : ∀ d k (h : fl_H), fl_g k0 h → fl_rq h g S → k < S.1 → (S.2.1 k).2.2.1 = d → ∃ y, fl_Rn fl_C 223 14 [some (.ref 259), none, none, some (.int (Int32.ofNat k))] [] h = some (some none, y) ∧ fl_df (fun q j => q = 281 ∧ j < d) h y ∧ ∀ j, j < d → fl_i y 281 j = Int32.ofNat (fl_rwS S.2.1 d k j)
  | 0, k, h, hg, I, hk, hd => by
    have kz : k = 0 := by
      rcases Nat.eq_zero_or_pos k with z | z
      · exact z
      · have := J.2.2.2.1.2.2 k z hk; omega
    subst kz
    refine ⟨h, ?_, fl_df_rfl, fun j z => by omega⟩
    have z : (-Int32.ofNat 1 < Int32.ofNat 0) = True := eq_true (by decide)
    have c := (I.2 0 hk).2.2.1 rfl
    clear I J
    rw [fbC_223_14]
    simp (disch := omega) only [hg.1, hg.2, fl_KM, fl_RM, fl_lit, fl_nadd, fl_nmul, fl_ndiv, fl_nsub, fl_msub, fl_nle, fl_nlt, fl_neq, fl_nclamp, fl_nin, fl_ltT, fl_ltF, fl_leT, fl_leF, fl_eqT, fl_eqF, decide_true, decide_false, Bool.true_and, Bool.and_true, Bool.false_and, Bool.and_false, if_true, if_false, Bool.false_eq_true, Option.isSome_some, Option.getD_some, not_true_eq_false, not_false_eq_true, Option.toList_some, Option.toList_none, List.cons_append, List.nil_append, c, fbC_223_20, z]
  | d + 1, k, h, hg, I, hk, hd => by
    have k0' : 0 < k := by
      rcases Nat.eq_zero_or_pos k with z | z
      · subst z
        have := J.2.2.2.1.2.1; omega
      · exact z
    have b := J.2.2.2.1.2.2 k k0' hk
    have s729 := fl_J_729 J
    have d6 := J.2.2.2.2.2 k hk
    have c := I.2 k hk
    have c1 := c.2.1
    have c2 := (c.2.2.2 k0').1
    have c3 := (c.2.2.2 k0').2
    rw [hd] at c1
    have d1 : fl_df (fun q j => q = 281 ∧ j = d) h (fl_wi h 281 (fl_up (fl_i h 281) d (Int32.ofNat (S.2.1 k).2.2.2.2))) := fl_df_wiu fl_df_rfl ⟨rfl, rfl⟩
    have i1 : fl_i (fl_wi h 281 (fl_up (fl_i h 281) d (Int32.ofNat (S.2.1 k).2.2.2.2))) 281 d = Int32.ofNat (S.2.1 k).2.2.2.2 := by rw [fl_i_wi, if_pos rfl, fl_up_self]
    have c2' : fl_i (fl_wi h 281 (fl_up (fl_i h 281) d (Int32.ofNat (S.2.1 k).2.2.2.2))) 278 k = Int32.ofNat (S.2.1 k).2.2.2.1 := by rw [fl_i_wi, if_neg (by decide)]; exact c2
    generalize hH : fl_wi h 281 (fl_up (fl_i h 281) d (Int32.ofNat (S.2.1 k).2.2.2.2)) = H at *
    have gH := fl_df_g hg d1
    have e : ∀ q, q ≠ 281 → fl_i H q = fl_i h q := fun q z => fl_df_i d1 (fun j => by omega)
    have IH : fl_rq H g S := by
      refine ⟨by rw [e _ (by decide)]; exact I.1, fun k hk => ?_⟩
      rw [e _ (by decide), e _ (by decide), e _ (by decide), e _ (by decide)]
      exact I.2 k hk
    obtain ⟨y, ey, dy, cy⟩ := fr_223l J d (S.2.1 k).2.2.2.1 H gH IH (by omega) (by omega)
    refine ⟨y, ?_, fl_df_tr (fl_df_mo d1 (fun q j z => by omega)) (fl_df_mo dy (fun q j z => by omega)), fun j hj => ?_⟩
    · have sb : Int32.ofNat (d + 1) - Int32.ofNat 1 = Int32.ofNat d := by rw [fl_nsub (by omega)]; rfl
      have bA : (S.2.1 k).2.2.2.1 < 1000 := by omega
      clear J I IH c d1 cy dy b e
      rw [fbC_223_14]
      simp (disch := omega) only [fl_si_wi, hg.1, hg.2, gH.1, gH.2, fl_KM, fl_RM, fl_lit, fl_nadd, fl_nmul, fl_ndiv, fl_nsub, fl_msub, fl_nle, fl_nlt, fl_neq, fl_nclamp, fl_nin, fl_ltT, fl_ltF, fl_leT, fl_leF, fl_eqT, fl_eqF, decide_true, decide_false, Bool.true_and, Bool.and_true, Bool.false_and, Bool.and_false, if_true, if_false, Bool.false_eq_true, Option.isSome_some, Option.getD_some, not_true_eq_false, not_false_eq_true, Option.toList_some, Option.toList_none, List.cons_append, List.nil_append, c2, fbC_223_20, c1, fbC_223_33, Nat.add_sub_cancel, c3, fbC_223_35, fbC_223_41, hH, fbC_223_42, c2', fbC_223_48, ey]
    · rw [fl_rwS]
      by_cases jd : j = d
      · subst jd
        rw [fl_up_self, (dy.2.2.2 281 _ (by omega)).1]; exact i1
      · rw [fl_up_ne jd]
        exact cy j (by omega)
theorem fr_223 (hg : fl_g k0 h) (J : fl_J0 g S) (I : fl_rq h g S) {i n : Nat} (hi : i < S.1) (d6 : (S.2.1 i).2.2.1 < 6) : ∃ y, fl_cl fl_C 223 [.ref 259, .int (Int32.ofNat i), .int (Int32.ofNat n)] h = some (some none, y) ∧ fl_df (fun q _ => q = 281) h y ∧ ∀ j, j < (fl_ans S.2.1 i n).1 → fl_i y 281 j = Int32.ofNat ((fl_ans S.2.1 i n).2 j) := by
  have s729 := fl_J_729 J
  have c1 := (I.2 i hi).2.1
  have d1 : fl_df (fun q j => q = 281 ∧ j = (S.2.1 i).2.2.1) h (fl_wi h 281 (fl_up (fl_i h 281) (S.2.1 i).2.2.1 (Int32.ofNat n))) := fl_df_wiu fl_df_rfl ⟨rfl, rfl⟩
  have i1 : fl_i (fl_wi h 281 (fl_up (fl_i h 281) (S.2.1 i).2.2.1 (Int32.ofNat n))) 281 (S.2.1 i).2.2.1 = Int32.ofNat n := by rw [fl_i_wi, if_pos rfl, fl_up_self]
  generalize hH : fl_wi h 281 (fl_up (fl_i h 281) (S.2.1 i).2.2.1 (Int32.ofNat n)) = H at *
  have gH := fl_df_g hg d1
  have e : ∀ q, q ≠ 281 → fl_i H q = fl_i h q := fun q z => fl_df_i d1 (fun j => by omega)
  have IH : fl_rq H g S := by
    refine ⟨by rw [e _ (by decide)]; exact I.1, fun k hk => ?_⟩
    rw [e _ (by decide), e _ (by decide), e _ (by decide), e _ (by decide)]
    exact I.2 k hk
  obtain ⟨y, ey, dy, cy⟩ := fr_223l J (S.2.1 i).2.2.1 i H gH IH hi rfl
  refine ⟨y, ?_, fl_df_tr (fl_df_mo d1 (fun q j z => z.1)) (fl_df_mo dy (fun q j z => z.1)), fun j hj => ?_⟩
  · clear J I IH d1 dy cy e i1
    generalize (S.2.1 i).2.2.1 = D at *
    rw [fbE_223]
    simp (disch := omega) only [fl_si_wi, hg.1, hg.2, gH.1, gH.2, fl_KM, fl_RM, fl_lit, fl_nadd, fl_nmul, fl_ndiv, fl_nsub, fl_msub, fl_nle, fl_nlt, fl_neq, fl_nclamp, fl_nin, fl_ltT, fl_ltF, fl_leT, fl_leF, fl_eqT, fl_eqF, decide_true, decide_false, Bool.true_and, Bool.and_true, Bool.false_and, Bool.and_false, if_true, if_false, Bool.false_eq_true, Option.isSome_some, Option.getD_some, not_true_eq_false, not_false_eq_true, Option.toList_some, Option.toList_none, List.cons_append, List.nil_append, c1, fbC_223_10, hH, fbC_223_12, ey]
  · unfold fl_ans at hj ⊢
    dsimp only at hj ⊢
    by_cases jd : j = (S.2.1 i).2.2.1
    · subst jd
      rw [fl_up_self, (dy.2.2.2 281 _ (by omega)).1]; exact i1
    · rw [fl_up_ne jd]
      exact cy j (by omega)
end
