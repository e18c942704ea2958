/-! tests -/
section
variable {k0 : Nat → Nat × Nat} {h : fl_H} {g ρ : Nat → Nat} {c : Nat × Nat × Nat × Bool} {s : Int64}
abbrev fl_SG2 (q j : Nat) : Prop := (q = 214 ∧ j = 8) ∨ (216 ≤ q ∧ q ≤ 258)
/-- the search of a fault, the class's, all forgotten ahead -/
theorem fo_tests_s (hg : fl_g k0 h) (w : fl_wf g) (d : fl_rn h 27 g s) {f : Nat} (hf : f < 2 * (g 0 + g 2)) : ∃ v y, fl_cl fl_C 219 [.ref 0, .int (Int32.ofNat f)] h = fl_ca fl_C 219 38 [some (.ref 0)] [] [] (some (some v, y)) ∧ fl_df fl_SG h y ∧ fl_fq (fl_few g f) v y := by
  have R := fl_o27 (k0 := k0)
  have N := fl_sk28 (k0 := k0)
  have w0 : g 0 ≤ 12 := w.1.2.2.2.1
  have w2 : g 2 ≤ 20 := w.1.2.2.2.2.1
  have nt : fl_net h 28 g := d.1
  have e162 := fc_162 hg N w nt (Int32.ofNat f)
  rw [if_pos (by rw [fl_nin (by omega)]; exact decide_eq_true hf)] at e162
  obtain ⟨y, ey, dy, My⟩ := fc_207 hg w
  have gy := fl_df_g hg dy
  obtain ⟨v, z, ez, dz, Mz, F⟩ := fc_218 gy w (fl_net_df nt dy (fun q j z => by omega)) My hf
  refine ⟨v, z, ?_, fl_df_tr (fl_df_mo dy (fun q j z => by omega)) dz, F⟩
  have o27 : fl_KK k0 27 = (1, 7) ∧ fl_RR 27 0 = some 28 := ⟨R.1.1, R.1.2.1⟩
  have o28 := N.1.1
  have o214 := (fl_o214 (k0 := k0)).1
  clear w d R N nt My dy dz Mz F
  rw [fbE_219]
  simp (disch := omega) only [hg.1, hg.2, gy.1, gy.2, fl_KF, fl_RF, o27, o28, o214, fl_lit, fl_nadd, fl_nmul, fl_ndiv, fl_nsub, fl_msub, fl_nle, fl_nlt, fl_neq, fl_nclamp, fl_nin, fl_ltT, fl_ltF, fl_leT, fl_leF, fl_eqT, fl_eqF, decide_true, decide_false, Bool.true_and, Bool.and_true, Bool.false_and, Bool.and_false, if_true, if_false, Bool.false_eq_true, Option.isSome_some, Option.getD_some, not_true_eq_false, not_false_eq_true, Option.toList_some, Option.toList_none, List.cons_append, List.nil_append, e162, fbP_219_11, ey, fbP_219_23, ez]
theorem fo_tests_a0 (hg : fl_g k0 h) (w : fl_wf g) (d : fl_rn h 27 g s) {f : Nat} (hf : f < 2 * (g 0 + g 2)) (e : fl_few g f = none) : ∃ y, fl_cl fl_C 219 [.ref 0, .int (Int32.ofNat f)] h = some (some (some (.int (-Int32.ofNat 2))), y) ∧ fl_df fl_SG h y := by
  obtain ⟨v, y, st, dy, F⟩ := fo_tests_s hg w d hf
  refine ⟨y, ?_, dy⟩
  rw [st, F.1 e]
  clear F w d st
  rw [fbP_219_38]
  simp (disch := omega) only [fl_lit, fl_nadd, fl_nmul, fl_ndiv, fl_nsub, fl_msub, fl_nle, fl_nlt, fl_neq, fl_nclamp, fl_nin, fl_ltT, fl_ltF, fl_leT, fl_leF, fl_eqT, fl_eqF, decide_true, decide_false, Bool.true_and, Bool.and_true, Bool.false_and, Bool.and_false, if_true, if_false, Bool.false_eq_true, Option.isSome_some, Option.getD_some, not_true_eq_false, not_false_eq_true, Option.toList_some, Option.toList_none, List.cons_append, List.nil_append]
theorem fo_tests_a (hg : fl_g k0 h) (w : fl_wf g) (d : fl_rn h 27 g s) (e1 : fl_i h 4 1 = Int32.ofNat 6) {f : Nat} (hf : f < 2 * (g 0 + g 2)) {x : Nat × (Nat → Nat)} (e : fl_few g f = some x) : ∃ y, fl_cl fl_C 219 [.ref 0, .int (Int32.ofNat f)] h = some (some (some (.int (Int32.ofNat x.1))), y) ∧ fl_df (fun q j => fl_SG q j ∨ fl_Sc6 q j) h y ∧ fl_i y 4 2 = Int32.ofNat x.1 ∧ ∀ j, j < x.1 → fl_l y 6 j = Int64.ofNat (x.2 j) := by
  obtain ⟨v, y, st, dy, F⟩ := fo_tests_s hg w d hf
  have b := fl_few_b w e
  obtain ⟨rfl, cy⟩ := F.2 x e
  have gy := fl_df_g hg dy
  have o4 := fl_o4 (k0 := k0)
  have o41 := o4.1
  have o214 := fl_o214 (k0 := k0)
  have o215 := fl_o215 (k0 := k0)
  have c0 := o215.1
  have x1 := b.1
  have x6 := b.2.1
  have d1 : fl_df fl_Sc6 y (fl_wi y 4 (fl_up (fl_i y 4) 2 (Int32.ofNat 0))) := fl_df_wiu fl_df_rfl (Or.inl ⟨rfl, rfl⟩)
  have l1 : fl_i (fl_wi y 4 (fl_up (fl_i y 4) 2 (Int32.ofNat 0))) 4 2 = Int32.ofNat 0 := by rw [fl_i_wi, if_pos rfl, fl_up_self]
  have s1 : fl_ca fl_C 219 38 [some (.ref 0)] [] [] (some (some (some (.int (Int32.ofNat x.1))), y)) = fl_Rn fl_C 219 55 [some (.ref 0), none, some (.int (Int32.ofNat x.1)), some (.int (Int32.ofNat 0))] [] (fl_wi y 4 (fl_up (fl_i y 4) 2 (Int32.ofNat 0))) := by
    clear w d F e b cy d1 l1 dy st
    rw [fbP_219_38]
    simp (disch := omega) only [fl_si_wi, gy.1, gy.2, fl_KF, fl_RF, o41, fl_lit, fl_nadd, fl_nmul, fl_ndiv, fl_nsub, fl_msub, fl_nle, fl_nlt, fl_neq, fl_nclamp, fl_nin, fl_ltT, fl_ltF, fl_leT, fl_leF, fl_eqT, fl_eqF, decide_true, decide_false, Bool.true_and, Bool.and_true, Bool.false_and, Bool.and_false, if_true, if_false, Bool.false_eq_true, Option.isSome_some, Option.getD_some, not_true_eq_false, not_false_eq_true, Option.toList_some, Option.toList_none, List.cons_append, List.nil_append, fbE_40, fbP_219_53]
  rw [st, s1]
  clear st s1
  generalize fl_wi y 4 (fl_up (fl_i y 4) 2 (Int32.ofNat 0)) = y1 at *
  suffices fl_to (fl_Rn fl_C 219 55 [some (.ref 0), none, some (.int (Int32.ofNat x.1)), some (.int (Int32.ofNat 0))] [] y1) (fun v z => v = some (.int (Int32.ofNat x.1)) ∧ fl_df fl_Sc6 y z ∧ fl_i z 4 2 = Int32.ofNat x.1 ∧ ∀ j, j < x.1 → fl_l z 6 j = Int64.ofNat (x.2 j)) by
    obtain ⟨v, z, ez, rfl, dz, r⟩ := this
    exact ⟨z, ez, fl_df_tr (fl_df_mo dy (fun q j z => Or.inl z)) (fl_df_mo dz (fun q j z => Or.inr z)), r⟩
  have i6 : ∀ {z : fl_H}, fl_df fl_Sc6 y z → fl_i z 4 1 = Int32.ofNat 6 := fun dz => by rw [(dz.2.2.2 4 1 (by omega)).1, (dy.2.2.2 4 1 (by omega)).1]; exact e1
  refine fl_loopT (F := fun k z => fl_Rn fl_C 219 55 [some (.ref 0), none, some (.int (Int32.ofNat x.1)), some (.int (Int32.ofNat k))] [] z) (fun k z => fl_df fl_Sc6 y z ∧ fl_i z 4 2 = Int32.ofNat k ∧ ∀ j, j < k → fl_l z 6 j = Int64.ofNat (x.2 j)) x.1 ?_ ?_ 0 y1 (Nat.zero_le _) ⟨d1, l1, fun j hj => absurd hj (Nat.not_lt_zero _)⟩
  · rintro z ⟨dz, r⟩
    have : fl_Rn fl_C 219 55 [some (.ref 0), none, some (.int (Int32.ofNat x.1)), some (.int (Int32.ofNat x.1))] [] z = some (some (some (.int (Int32.ofNat x.1))), z) := by
      clear w d F e b cy d1 l1 dy dz r i6
      rw [fbC_219_55]
      simp (disch := omega) only [fl_lit, fl_nadd, fl_nmul, fl_ndiv, fl_nsub, fl_msub, fl_nle, fl_nlt, fl_neq, fl_nclamp, fl_nin, fl_ltT, fl_ltF, fl_leT, fl_leF, fl_eqT, fl_eqF, decide_true, decide_false, Bool.true_and, Bool.and_true, Bool.false_and, Bool.and_false, if_true, if_false, Bool.false_eq_true, Option.isSome_some, Option.getD_some, not_true_eq_false, not_false_eq_true, Option.toList_some, Option.toList_none, List.cons_append, List.nil_append]
    exact ⟨_, _, this, rfl, dz, r⟩
  · rintro k z hk ⟨dz, i2, r⟩ hy
    have gz := fl_df_g gy dz
    have e105 := fc_at o215 gz (show k < 6 by omega)
    rw [(dz.2.2.2 216 k (by omega)).2, cy k hk] at e105
    have a := fc_add gz (n := k) (by omega) (i6 dz) i2 (Int64.ofNat (x.2 k))
    have : fl_Rn fl_C 219 55 [some (.ref 0), none, some (.int (Int32.ofNat x.1)), some (.int (Int32.ofNat k))] [] z = fl_Rn fl_C 219 55 [some (.ref 0), none, some (.int (Int32.ofNat x.1)), some (.int (Int32.ofNat (k + 1)))] [] (fl_tc6 z k (Int64.ofNat (x.2 k))) := by
      clear w d F e b cy d1 l1 dy dz r i6 hy
      generalize Int64.ofNat (x.2 k) = X at *
      generalize fl_tc6 z k X = Z at *
      rw [fbC_219_55]
      simp (disch := omega) only [gz.1, gz.2, fl_KF, fl_RF, o41, o214, c0, fl_lit, fl_nadd, fl_nmul, fl_ndiv, fl_nsub, fl_msub, fl_nle, fl_nlt, fl_neq, fl_nclamp, fl_nin, fl_ltT, fl_ltF, fl_leT, fl_leF, fl_eqT, fl_eqF, decide_true, decide_false, Bool.true_and, Bool.and_true, Bool.false_and, Bool.and_false, if_true, if_false, Bool.false_eq_true, Option.isSome_some, Option.getD_some, not_true_eq_false, not_false_eq_true, Option.toList_some, Option.toList_none, List.cons_append, List.nil_append, e105, fbP_219_75, a, fbP_219_78]
    rw [this]
    refine hy _ ⟨fl_tc6_df dz, fl_tc6_n, fun j hj => ?_⟩
    rw [fl_tc6_l]
    by_cases q : j = k
    · subst q; exact fl_up_self
    · rw [fl_up_ne q]; exact r j (by omega)
theorem fo_tests_b0 (hg : fl_g k0 h) (m : fl_mm h g) (w : fl_wf g) {f : Nat} (hf : f < 2 * (g 0 + g 2)) (e : fl_few g f = none) : ∃ y, fl_cl fl_C 226 [.ref 259, .int (Int32.ofNat f)] h = some (some (some (.int (-Int32.ofNat 2))), y) ∧ fl_df fl_scr h y := by
  have w0 : g 0 ≤ 12 := w.1.2.2.2.1
  have w2 : g 2 ≤ 20 := w.1.2.2.2.2.1
  have d0 : fl_df fl_scr h (fl_wi h 259 (fl_up (fl_i h 259) 0 (Int32.ofNat 0))) := fl_up0_df (by omega)
  generalize hH : fl_wi h 259 (fl_up (fl_i h 259) 0 (Int32.ofNat 0)) = H at *
  have gH := fl_df_g hg d0
  have mH : fl_mm H g := fl_mm_df m d0 (fun j => by omega)
  have e164 := fr_164 gH mH w0 w2 (Int32.ofNat f)
  rw [if_pos (by rw [fl_nin (by omega)]; exact decide_eq_true hf)] at e164
  obtain ⟨v, y, ey, dy, F⟩ := fr_225 gH mH w hf
  have v1 := F.1 e
  subst v1
  refine ⟨y, ?_, fl_df_tr d0 dy⟩
  have z : (Int32.ofNat 0 ≤ -Int32.ofNat 1) = False := eq_false (by decide)
  clear m w d0 mH dy F e
  rw [fbE_226]
  simp (disch := omega) only [fl_si_wi, hg.1, gH.1, fl_KM, fl_RM, fl_lit, fl_nadd, fl_nmul, fl_ndiv, fl_nsub, fl_msub, fl_nle, fl_nlt, fl_neq, fl_nclamp, fl_nin, fl_ltT, fl_ltF, fl_leT, fl_leF, fl_eqT, fl_eqF, decide_true, decide_false, Bool.true_and, Bool.and_true, Bool.false_and, Bool.and_false, if_true, if_false, Bool.false_eq_true, Option.isSome_some, Option.getD_some, not_true_eq_false, not_false_eq_true, Option.toList_some, Option.toList_none, List.cons_append, List.nil_append, hH, fbC_226_5, e164, fbP_226_10, ey, fbP_226_20, z]
theorem fo_tests_b (hg : fl_g k0 h) (m : fl_mm h g) (w : fl_wf g) {f : Nat} (hf : f < 2 * (g 0 + g 2)) {x : Nat × (Nat → Nat)} (e : fl_few g f = some x) : ∃ y, fl_cl fl_C 226 [.ref 259, .int (Int32.ofNat f)] h = some (some (some (.int (Int32.ofNat x.1))), y) ∧ fl_df (fun q j => fl_scr q j ∨ fl_Sae q j) h y ∧ fl_i y 259 1 = Int32.ofNat x.1 ∧ ∀ j, j < x.1 → fl_l y 260 j = Int64.ofNat (x.2 j) := by
  have w0 : g 0 ≤ 12 := w.1.2.2.2.1
  have w2 : g 2 ≤ 20 := w.1.2.2.2.2.1
  have b := fl_few_b w e
  have x1 := b.1
  have x6 := b.2.1
  have d0 : fl_df fl_scr h (fl_wi h 259 (fl_up (fl_i h 259) 0 (Int32.ofNat 0))) := fl_up0_df (by omega)
  generalize hH : fl_wi h 259 (fl_up (fl_i h 259) 0 (Int32.ofNat 0)) = H at *
  have gH := fl_df_g hg d0
  have mH : fl_mm H g := fl_mm_df m d0 (fun j => by omega)
  have e164 := fr_164 gH mH w0 w2 (Int32.ofNat f)
  rw [if_pos (by rw [fl_nin (by omega)]; exact decide_eq_true hf)] at e164
  obtain ⟨v, y, ey, dy, F⟩ := fr_225 gH mH w hf
  obtain ⟨rfl, cy⟩ := F.2 x e
  have gy := fl_df_g gH dy
  have ga := fl_a0_g gy
  have st : fl_cl fl_C 226 [.ref 259, .int (Int32.ofNat f)] h = fl_Rn fl_C 226 35 [some (.ref 259), none, some (.int (Int32.ofNat x.1)), some (.int (Int32.ofNat 0))] [] (fl_a0 y) := by
    clear m w d0 mH dy F e b cy
    rw [fbE_226]
    simp (disch := omega) only [fl_si_wi, hg.1, gH.1, gy.1, fl_KM, fl_RM, fl_lit, fl_nadd, fl_nmul, fl_ndiv, fl_nsub, fl_msub, fl_nle, fl_nlt, fl_neq, fl_nclamp, fl_nin, fl_ltT, fl_ltF, fl_leT, fl_leF, fl_eqT, fl_eqF, decide_true, decide_false, Bool.true_and, Bool.and_true, Bool.false_and, Bool.and_false, if_true, if_false, Bool.false_eq_true, Option.isSome_some, Option.getD_some, not_true_eq_false, not_false_eq_true, Option.toList_some, Option.toList_none, List.cons_append, List.nil_append, hH, fbC_226_5, e164, fbP_226_10, ey, fbP_226_20, fl_a0_w, fbC_226_33]
  rw [st]
  clear st
  suffices fl_to (fl_Rn fl_C 226 35 [some (.ref 259), none, some (.int (Int32.ofNat x.1)), some (.int (Int32.ofNat 0))] [] (fl_a0 y)) (fun v z => v = some (.int (Int32.ofNat x.1)) ∧ fl_df fl_Sae y z ∧ fl_i z 259 1 = Int32.ofNat x.1 ∧ ∀ j, j < x.1 → fl_l z 260 j = Int64.ofNat (x.2 j)) by
    obtain ⟨v, z, ez, rfl, dz, r⟩ := this
    exact ⟨z, ez, fl_df_tr (fl_df_mo (fl_df_tr d0 dy) (fun q j z => Or.inl z)) (fl_df_mo dz (fun q j z => Or.inr z)), r⟩
  have da : fl_df fl_Sae y (fl_a0 y) := by
    unfold fl_a0
    exact fl_df_wiu fl_df_rfl (Or.inl ⟨rfl, rfl⟩)
  refine fl_loopT (F := fun k z => fl_Rn fl_C 226 35 [some (.ref 259), none, some (.int (Int32.ofNat x.1)), some (.int (Int32.ofNat k))] [] z) (fun k z => fl_df fl_Sae y z ∧ fl_i z 259 1 = Int32.ofNat k ∧ ∀ j, j < k → fl_l z 260 j = Int64.ofNat (x.2 j)) x.1 ?_ ?_ 0 (fl_a0 y) (Nat.zero_le _) ⟨da, fl_a0_n, fun j hj => absurd hj (Nat.not_lt_zero _)⟩
  · rintro z ⟨dz, r⟩
    have : fl_Rn fl_C 226 35 [some (.ref 259), none, some (.int (Int32.ofNat x.1)), some (.int (Int32.ofNat x.1))] [] z = some (some (some (.int (Int32.ofNat x.1))), z) := by
      clear m w d0 mH dy F e b cy da dz r
      rw [fbC_226_35]
      simp (disch := omega) only [fl_lit, fl_nadd, fl_nmul, fl_ndiv, fl_nsub, fl_msub, fl_nle, fl_nlt, fl_neq, fl_nclamp, fl_nin, fl_ltT, fl_ltF, fl_leT, fl_leF, fl_eqT, fl_eqF, decide_true, decide_false, Bool.true_and, Bool.and_true, Bool.false_and, Bool.and_false, if_true, if_false, Bool.false_eq_true, Option.isSome_some, Option.getD_some, not_true_eq_false, not_false_eq_true, Option.toList_some, Option.toList_none, List.cons_append, List.nil_append]
    exact ⟨_, _, this, rfl, dz, r⟩
  · rintro k z hk ⟨dz, i2, r⟩ hy
    have gz := fl_df_g gy dz
    have i281 : fl_i z 281 k = Int32.ofNat (x.2 k) := by rw [(dz.2.2.2 281 k (by omega)).1]; exact cy k hk
    have xk := b.2.2 k hk
    have a := fr_143 gz (n := k) (by omega) i2 (Int32.toInt64 (Int32.ofNat (x.2 k)))
    have ae : fl_wi (fl_wl z 260 (fl_up (fl_l z 260) k (Int32.toInt64 (Int32.ofNat (x.2 k))))) 259 (fl_up (fl_i z 259) 1 (Int32.ofNat (k + 1))) = fl_ae z k (Int64.ofNat (x.2 k)) := by rw [fl_i64 (by omega)]; rfl
    rw [ae] at a
    have : fl_Rn fl_C 226 35 [some (.ref 259), none, some (.int (Int32.ofNat x.1)), some (.int (Int32.ofNat k))] [] z = fl_Rn fl_C 226 35 [some (.ref 259), none, some (.int (Int32.ofNat x.1)), some (.int (Int32.ofNat (k + 1)))] [] (fl_ae z k (Int64.ofNat (x.2 k))) := by
      clear m w d0 mH dy F e b cy da dz r hy ae
      generalize fl_ae z k (Int64.ofNat (x.2 k)) = Z at *
      generalize x.2 k = X at *
      rw [fbC_226_35]
      simp (disch := omega) only [gz.1, gz.2, fl_KM, fl_RM, fl_lit, fl_nadd, fl_nmul, fl_ndiv, fl_nsub, fl_msub, fl_nle, fl_nlt, fl_neq, fl_nclamp, fl_nin, fl_ltT, fl_ltF, fl_leT, fl_leF, fl_eqT, fl_eqF, decide_true, decide_false, Bool.true_and, Bool.and_true, Bool.false_and, Bool.and_false, if_true, if_false, Bool.false_eq_true, Option.isSome_some, Option.getD_some, not_true_eq_false, not_false_eq_true, Option.toList_some, Option.toList_none, List.cons_append, List.nil_append, i281, fbC_226_47, a, fbP_226_51]
    rw [this]
    refine hy _ ⟨?_, fl_ae_n, fun j hj => ?_⟩
    · unfold fl_ae
      exact fl_df_wiu (fl_df_wlu dz (Or.inr rfl)) (Or.inl ⟨rfl, rfl⟩)
    · rw [fl_ae_l]
      by_cases q : j = k
      · subst q; exact fl_up_self
      · rw [fl_up_ne q]; exact r j (by omega)
theorem fl_SG_SQ {q j : Nat} (z : fl_SG q j) : fl_SQ q j := Or.inr (Or.inr (Or.inr (Or.inr (Or.inr (by omega)))))
theorem fo_tests (I : fl_Inv k0 c h) (p : Int32) : fl_both k0 c 219 226 [.int p] [.int p] h := by
  obtain ⟨rn, rv, iO⟩ := I.2.2.2.1
  obtain ⟨g, g1, g2, b1, b2, r, s1, s2, iG⟩ := I.2.2.2.2.2
  have hg := I.1
  have w := iG.1
  have d := iG.2.2.2.1
  have w0 : g 0 ≤ 12 := w.1.2.2.2.1
  have w2 : g 2 ≤ 20 := w.1.2.2.2.2.1
  by_cases V : fl_in p (2 * (g 0 + g 2)) = true
  · obtain ⟨f, hf, rfl⟩ := fl_in_ex V
    cases e : fl_few g f with
    | none =>
      obtain ⟨y, a, dy⟩ := fo_tests_a0 hg w d hf e
      obtain ⟨z, b, dz⟩ := fo_tests_b0 (fl_df_g hg dy) (fl_mm_df iG.2.1 dy (fun j => by omega)) w hf e
      have dT : fl_df (fun q j => fl_SG q j ∨ fl_scr q j) h z := fl_df_tr (fl_df_mo dy (fun q j z => Or.inl z)) (fl_df_mo dz (fun q j z => Or.inr z))
      exact ⟨_, _, _, a, b, fl_Inv_sq I (fl_df_mo dT (fun q j z => z.elim fl_SG_SQ Or.inl)) (fl_iO_sq ⟨rn, rv, iO⟩ (dT.2.2.2 259 1 (by omega)).1 (fl_df_l dT (fun j => by omega)) (fl_df_i dT (fun j => by omega)) (fl_df_l dT (fun j => by omega)))⟩
    | some x =>
      have x6 := (fl_few_b w e).2.1
      obtain ⟨y, a, dy, y2, yl⟩ := fo_tests_a hg w d iO.2.2.1 hf e
      obtain ⟨z, b, dz, z2, zl⟩ := fo_tests_b (fl_df_g hg dy) (fl_mm_df iG.2.1 dy (fun j => by omega)) w hf e
      have dT : fl_df fl_SQ h z := fl_df_tr (fl_df_mo dy (fun q j z => z.elim fl_SG_SQ fl_Sc6_SQ)) (fl_df_mo dz (fun q j z => z.elim Or.inl fl_Sae_SQ))
      exact ⟨_, _, _, a, b, fl_Inv_sq I dT ⟨x.1, fun j => Int64.ofNat (x.2 j), x6, z2, by rw [(dz.2.2.2 4 1 (by omega)).1, (dy.2.2.2 4 1 (by omega)).1]; exact iO.2.2.1, by rw [(dz.2.2.2 4 2 (by omega)).1]; exact y2, fun j hj => ⟨zl j hj, by rw [(dz.2.2.2 6 j (by omega)).2]; exact yl j hj⟩⟩⟩
  · have R := fl_o27 (k0 := k0)
    have N := fl_sk28 (k0 := k0)
    have e162 := fc_162 hg N w d.1 p
    rw [if_neg V] at e162
    have a : fl_cl fl_C 219 [.ref 0, .int p] h = some (some (some (.int (-Int32.ofNat 1))), h) := by
      have o27 : fl_KK k0 27 = (1, 7) ∧ fl_RR 27 0 = some 28 := ⟨R.1.1, R.1.2.1⟩
      have o28 := N.1.1
      clear w d R N I iG iO V
      rw [fbE_219]
      simp (disch := omega) only [hg.1, hg.2, fl_KF, fl_RF, o27, o28, fl_lit, fl_nadd, fl_nmul, fl_ndiv, fl_nsub, fl_msub, fl_nle, fl_nlt, fl_neq, fl_nclamp, fl_nin, fl_ltT, fl_ltF, fl_leT, fl_leF, fl_eqT, fl_eqF, decide_true, decide_false, Bool.true_and, Bool.and_true, Bool.false_and, Bool.and_false, if_true, if_false, Bool.false_eq_true, Option.isSome_some, Option.getD_some, not_true_eq_false, not_false_eq_true, Option.toList_some, Option.toList_none, List.cons_append, List.nil_append, e162, fbP_219_11]
    have b : fl_cl fl_C 226 [.ref 259, .int p] h = some (some (some (.int (-Int32.ofNat 1))), fl_wi h 259 (fl_up (fl_i h 259) 0 (Int32.ofNat 0))) := by
      have d0 : fl_df fl_scr h (fl_wi h 259 (fl_up (fl_i h 259) 0 (Int32.ofNat 0))) := fl_up0_df (by omega)
      generalize hH : fl_wi h 259 (fl_up (fl_i h 259) 0 (Int32.ofNat 0)) = H at *
      have gH := fl_df_g hg d0
      have e164 := fr_164 gH (fl_mm_df iG.2.1 d0 (fun j => by omega)) w0 w2 p
      rw [if_neg V] at e164
      clear w d R N I iG iO V d0
      rw [fbE_226]
      simp (disch := omega) only [fl_si_wi, hg.1, gH.1, fl_KM, fl_RM, fl_lit, fl_nadd, fl_nmul, fl_ndiv, fl_nsub, fl_msub, fl_nle, fl_nlt, fl_neq, fl_nclamp, fl_nin, fl_ltT, fl_ltF, fl_leT, fl_leF, fl_eqT, fl_eqF, decide_true, decide_false, Bool.true_and, Bool.and_true, Bool.false_and, Bool.and_false, if_true, if_false, Bool.false_eq_true, Option.isSome_some, Option.getD_some, not_true_eq_false, not_false_eq_true, Option.toList_some, Option.toList_none, List.cons_append, List.nil_append, hH, fbC_226_5, e164, fbP_226_10]
    exact ⟨_, _, _, a, b, fl_Inv_qt I fl_qt_0⟩
end
