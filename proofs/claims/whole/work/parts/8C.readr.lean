/-! THE REFERENCE reads: causes, signs -/
abbrev fl_kz (h : fl_H) (l : List (Nat × Nat)) : Prop := fl_i h 259 11 = Int32.ofNat l.length ∧ ∀ j, j < l.length → fl_i h 264 j = Int32.ofNat (l.getD j (0, 0)).1 ∧ fl_i h 265 j = Int32.ofNat (l.getD j (0, 0)).2
abbrev fl_xT (h : fl_H) (tn : Nat) (tx : Nat → Nat) : Prop := tn ≤ 80 ∧ fl_i h 259 6 = Int32.ofNat tn ∧ ∀ j, j < tn → tx j < 256 ∧ fl_i h 261 j = Int32.ofNat (tx j)
abbrev fl_mr (h : fl_H) (g : Nat → Nat) : Prop := ∀ j, j < 126 → fl_i h 262 (504 + j) = Int32.ofNat (g j)
abbrev fl_Srf (q j : Nat) : Prop := (q = 262 ∧ 504 ≤ j) ∨ (q = 259 ∧ (j = 5 ∨ j = 11 ∨ j = 12)) ∨ q = 264 ∨ q = 265
def fl_ix (i t : Nat) : Int32 := fl_oi (fl_any (fun j => decide (fl_sb8 i j = Int32.ofNat t)) (fl_sl8 i)) (fl_frst (fun j => decide (fl_sb8 i j = Int32.ofNat t)) (fl_sl8 i))
theorem fl_ix3 : ∀ t, t < 256 → fl_ix 3 t = if 97 ≤ t ∧ t < 109 then Int32.ofNat (t - 97) else -Int32.ofNat 1 := by decide +kernel
theorem fl_ix0 : ∀ t, t < 256 → fl_ix 0 t + Int32.ofNat 1 = Int32.ofNat (fl_srt t) := by decide +kernel
theorem fl_ix1 : ∀ t, t < 256 → fl_ix 1 t = if 49 ≤ t ∧ t ≤ 52 then Int32.ofNat (t - 49) else -Int32.ofNat 1 := by decide +kernel
theorem fl_ix2 : ∀ t, t < 256 → fl_ix 2 t = if t = 59 then Int32.ofNat 0 else -Int32.ofNat 1 := by decide +kernel
theorem fl_ix4 : ∀ t, t < 256 → fl_ix 4 t = if t = 48 ∨ t = 49 then Int32.ofNat (t - 48) else -Int32.ofNat 1 := by decide +kernel
theorem fl_ix5 : ∀ t, t < 256 → fl_ix 5 t = if t = 58 then Int32.ofNat 0 else -Int32.ofNat 1 := by decide +kernel
section
variable {k0 : Nat → Nat × Nat} {i0 : Nat → Nat → Int32} {h : fl_H} {g tx : Nat → Nat} {tn a : Nat} {l : List (Nat × Nat)}
theorem fr_81 (hg : fl_g k0 h) (z : fl_kz h l) (h4 : l.length < 4) (k n : Nat) : ∃ y, fl_cl fl_C 81 [.ref 259, .int (Int32.ofNat k), .int (Int32.ofNat n)] h = some (some none, y) ∧ fl_df (fun q j => (q = 259 ∧ j = 11) ∨ q = 264 ∨ q = 265) h y ∧ fl_kz y (l ++ [(k, n)]) := by
  have d1 : fl_df (fun q j => q = 264 ∧ j = l.length) h (fl_wi h 264 (fl_up (fl_i h 264) l.length (Int32.ofNat k))) := fl_df_wiu fl_df_rfl ⟨rfl, rfl⟩
  have v1 : fl_i (fl_wi h 264 (fl_up (fl_i h 264) l.length (Int32.ofNat k))) 264 l.length = Int32.ofNat k := by rw [fl_i_wi, if_pos rfl, fl_up_self]
  generalize e1 : fl_wi h 264 (fl_up (fl_i h 264) l.length (Int32.ofNat k)) = h1 at *
  have g1 := fl_df_g hg d1
  have d2 : fl_df (fun q j => q = 265 ∧ j = l.length) h1 (fl_wi h1 265 (fl_up (fl_i h1 265) l.length (Int32.ofNat n))) := fl_df_wiu fl_df_rfl ⟨rfl, rfl⟩
  have v2 : fl_i (fl_wi h1 265 (fl_up (fl_i h1 265) l.length (Int32.ofNat n))) 265 l.length = Int32.ofNat n := by rw [fl_i_wi, if_pos rfl, fl_up_self]
  generalize e2 : fl_wi h1 265 (fl_up (fl_i h1 265) l.length (Int32.ofNat n)) = h2 at *
  have g2 := fl_df_g g1 d2
  have d3 : fl_df (fun q j => q = 259 ∧ j = 11) h2 (fl_wi h2 259 (fl_up (fl_i h2 259) 11 (Int32.ofNat (l.length + 1)))) := fl_df_wiu fl_df_rfl ⟨rfl, rfl⟩
  have v3 : fl_i (fl_wi h2 259 (fl_up (fl_i h2 259) 11 (Int32.ofNat (l.length + 1)))) 259 11 = Int32.ofNat (l.length + 1) := by rw [fl_i_wi, if_pos rfl, fl_up_self]
  generalize e3 : fl_wi h2 259 (fl_up (fl_i h2 259) 11 (Int32.ofNat (l.length + 1))) = h3 at *
  have c0 := z.1
  have c1 : fl_i h1 259 11 = Int32.ofNat l.length := by rw [(d1.2.2.2 259 11 (by omega)).1]; exact c0
  have c2 : fl_i h2 259 11 = Int32.ofNat l.length := by rw [(d2.2.2.2 259 11 (by omega)).1]; exact c1
  refine ⟨h3, ?_, fl_df_tr (fl_df_mo d1 (fun q j z => by omega)) (fl_df_tr (fl_df_mo d2 (fun q j z => by omega)) (fl_df_mo d3 (fun q j z => by omega))), by rw [v3, List.length_append]; rfl, fun j hj => ?_⟩
  · clear d1 d2 d3 z v1 v2 v3
    rw [fbE_81]
    simp (disch := omega) only [fl_si_wi, hg.1, hg.2, g1.1, g1.2, g2.1, fl_KM, fl_RM, fl_lit, fl_nadd, fl_nmul, fl_ndiv, fl_nsub, fl_msub, fl_nle, fl_nlt, fl_neq, fl_nclamp, fl_nin, fl_ltT, fl_ltF, fl_leT, fl_leF, fl_eqT, fl_eqF, decide_true, decide_false, Bool.true_and, Bool.and_true, Bool.false_and, Bool.and_false, if_true, if_false, Bool.false_eq_true, Option.isSome_some, Option.getD_some, not_true_eq_false, not_false_eq_true, Option.toList_some, Option.toList_none, List.cons_append, List.nil_append, c0, e1, fbC_81_10, c1, e2, fbC_81_20, c2, e3]
  · rw [List.length_append] at hj
    have hj' : j < l.length + 1 := hj
    by_cases q : j = l.length
    · subst q
      rw [(d3.2.2.2 264 _ (by omega)).1, (d2.2.2.2 264 _ (by omega)).1, v1, (d3.2.2.2 265 _ (by omega)).1, v2, List.getD_eq_getElem?_getD, List.getElem?_append_right (Nat.le_refl _), Nat.sub_self]
      exact ⟨rfl, rfl⟩
    · have zz := z.2 j (by omega)
      rw [(d3.2.2.2 264 _ (by omega)).1, (d2.2.2.2 264 _ (by omega)).1, (d1.2.2.2 264 _ (by omega)).1, (d3.2.2.2 265 _ (by omega)).1, (d2.2.2.2 265 _ (by omega)).1, (d1.2.2.2 265 _ (by omega)).1, List.getD_eq_getElem?_getD, List.getElem?_append_left (by omega), ← List.getD_eq_getElem?_getD]
      exact zz
/-- it refuses -/
theorem fr_82 (hg : fl_g k0 h) (e5 : fl_i h 259 5 = Int32.ofNat a) (L : Nat) (il : Bool) (hL : L < 1000) {k n : Nat} (hk : k = 3 ∨ k = 4 ∨ k = 5) : ∃ y, fl_cl fl_C 82 [.ref 259, .int (Int32.ofNat L), .int (if il = true then Int32.ofNat L else -Int32.ofNat 1), .int (Int32.ofNat k), .int (Int32.ofNat n)] h = some (some (some (.int (-Int32.ofNat 1 - Int32.ofNat a))), y) ∧ fl_df (fun q j => (q = 259 ∧ j = 11) ∨ q = 264 ∨ q = 265) h y ∧ fl_kz y (fl_why L il k n a) := by
  have d0 : fl_df (fun q j => (q = 259 ∧ j = 11) ∨ q = 264 ∨ q = 265) h (fl_wi h 259 (fl_up (fl_i h 259) 11 (Int32.ofNat 0))) := fl_df_wiu fl_df_rfl (Or.inl ⟨rfl, rfl⟩)
  have z0 : fl_kz (fl_wi h 259 (fl_up (fl_i h 259) 11 (Int32.ofNat 0))) [] := ⟨by rw [fl_i_wi, if_pos rfl, fl_up_self]; rfl, fun j hj => absurd hj (Nat.not_lt_zero j)⟩
  generalize h0e : fl_wi h 259 (fl_up (fl_i h 259) 11 (Int32.ofNat 0)) = h0 at *
  have g0 := fl_df_g hg d0
  obtain ⟨h1, e1, d1, z1⟩ := fr_81 g0 z0 (by decide) 1 L
  have g1 := fl_df_g g0 d1
  have st : ∃ h2, fl_ca fl_C 82 11 [some (.ref 259), none, some (.int (if il = true then Int32.ofNat L else -Int32.ofNat 1)), some (.int (Int32.ofNat k)), some (.int (Int32.ofNat n))] [] [] (some (some none, h1)) = fl_Rn fl_C 82 21 [some (.ref 259), none, none, some (.int (Int32.ofNat k)), some (.int (Int32.ofNat n))] [] h2 ∧ fl_df (fun q j => (q = 259 ∧ j = 11) ∨ q = 264 ∨ q = 265) h1 h2 ∧ fl_kz h2 ((1, L) :: (if il = true then [(2, L)] else [])) := by
    cases il with
    | false =>
      have mm : (-Int32.ofNat 1 < Int32.ofNat 0) = True := eq_true (by decide)
      refine ⟨h1, ?_, fl_df_rfl, z1⟩
      rw [if_neg (by decide)]
      clear z0 d0 d1 z1
      rw [fbP_82_11]
      simp (disch := omega) only [fl_lit, fl_nadd, fl_nmul, fl_ndiv, fl_nsub, fl_msub, fl_nle, fl_nlt, fl_neq, fl_nclamp, fl_nin, fl_ltT, fl_ltF, fl_leT, fl_leF, fl_eqT, fl_eqF, decide_true, decide_false, Bool.true_and, Bool.and_true, Bool.false_and, Bool.and_false, if_true, if_false, Bool.false_eq_true, Option.isSome_some, Option.getD_some, not_true_eq_false, not_false_eq_true, Option.toList_some, Option.toList_none, List.cons_append, List.nil_append, mm]
    | true =>
      obtain ⟨h2, e2, d2, z2⟩ := fr_81 g1 z1 (show 1 < 4 by decide) 2 L
      refine ⟨h2, ?_, d2, z2⟩
      rw [if_pos rfl]
      clear z0 d0 d1 z1 d2 z2
      rw [fbP_82_11]
      simp (disch := omega) only [g1.1, fl_KM, fl_RM, fl_lit, fl_nadd, fl_nmul, fl_ndiv, fl_nsub, fl_msub, fl_nle, fl_nlt, fl_neq, fl_nclamp, fl_nin, fl_ltT, fl_ltF, fl_leT, fl_leF, fl_eqT, fl_eqF, decide_true, decide_false, Bool.true_and, Bool.and_true, Bool.false_and, Bool.and_false, if_true, if_false, Bool.false_eq_true, Option.isSome_some, Option.getD_some, not_true_eq_false, not_false_eq_true, Option.toList_some, Option.toList_none, List.cons_append, List.nil_append, e2, fbP_82_21]
  obtain ⟨h2, e2, d2, z2⟩ := st
  have g2 := fl_df_g g1 d2
  have len : ((1, L) :: (if il = true then [(2, L)] else []) : List (Nat × Nat)).length ≤ 2 := by
    cases il with
    | false => exact (show 1 ≤ 2 by decide)
    | true => exact (show 2 ≤ 2 by decide)
  have d02 := fl_df_tr d0 (fl_df_tr d1 d2)
  have a2 : fl_i h2 259 5 = Int32.ofNat a := by rw [(d02.2.2.2 259 5 (by omega)).1]; exact e5
  have en : fl_cl fl_C 82 [.ref 259, .int (Int32.ofNat L), .int (if il = true then Int32.ofNat L else -Int32.ofNat 1), .int (Int32.ofNat k), .int (Int32.ofNat n)] h = fl_Rn fl_C 82 21 [some (.ref 259), none, none, some (.int (Int32.ofNat k)), some (.int (Int32.ofNat n))] [] h2 := by
    rw [← e2]
    clear z0 d0 d1 z1 d2 z2 d02 e2 len
    generalize (if il = true then Int32.ofNat L else -Int32.ofNat 1) = IL at *
    rw [fbE_82]
    simp (disch := omega) only [fl_si_wi, hg.1, g0.1, fl_KM, fl_RM, fl_lit, fl_nadd, fl_nmul, fl_ndiv, fl_nsub, fl_msub, fl_nle, fl_nlt, fl_neq, fl_nclamp, fl_nin, fl_ltT, fl_ltF, fl_leT, fl_leF, fl_eqT, fl_eqF, decide_true, decide_false, Bool.true_and, Bool.and_true, Bool.false_and, Bool.and_false, if_true, if_false, Bool.false_eq_true, Option.isSome_some, Option.getD_some, not_true_eq_false, not_false_eq_true, Option.toList_some, Option.toList_none, List.cons_append, List.nil_append, h0e, fbC_82_5, e1]
  rw [en]
  clear en e2
  rcases hk with k3 | k4 | k5
  · subst k3
    obtain ⟨h3, e3, d3, z3⟩ := fr_81 g2 z2 (by omega) 3 a
    have g3 := fl_df_g g2 d3
    have a3 : fl_i h3 259 5 = Int32.ofNat a := by rw [(d3.2.2.2 259 5 (by omega)).1]; exact a2
    refine ⟨h3, ?_, fl_df_tr d02 d3, ?_⟩
    · clear z0 d0 d1 z1 d2 z2 d02 d3 z3 len
      rw [fbC_82_21]
      simp (disch := omega) only [g2.1, g3.1, fl_KM, fl_RM, fl_lit, fl_nadd, fl_nmul, fl_ndiv, fl_nsub, fl_msub, fl_nle, fl_nlt, fl_neq, fl_nclamp, fl_nin, fl_ltT, fl_ltF, fl_leT, fl_leF, fl_eqT, fl_eqF, decide_true, decide_false, Bool.true_and, Bool.and_true, Bool.false_and, Bool.and_false, if_true, if_false, Bool.false_eq_true, Option.isSome_some, Option.getD_some, not_true_eq_false, not_false_eq_true, Option.toList_some, Option.toList_none, List.cons_append, List.nil_append, fbC_82_33, a2, e3, fbP_82_51, a3]
    · have : fl_why L il 3 n a = ((1, L) :: (if il = true then [(2, L)] else [])) ++ [(3, a)] := by
        unfold fl_why
        rw [if_neg (show ¬ (3 = 5) by decide)]
        cases il <;> rfl
      rw [this]; exact z3
  · subst k4
    obtain ⟨h3, e3, d3, z3⟩ := fr_81 g2 z2 (by omega) 4 a
    have g3 := fl_df_g g2 d3
    have a3 : fl_i h3 259 5 = Int32.ofNat a := by rw [(d3.2.2.2 259 5 (by omega)).1]; exact a2
    refine ⟨h3, ?_, fl_df_tr d02 d3, ?_⟩
    · clear z0 d0 d1 z1 d2 z2 d02 d3 z3 len
      rw [fbC_82_21]
      simp (disch := omega) only [g2.1, g3.1, fl_KM, fl_RM, fl_lit, fl_nadd, fl_nmul, fl_ndiv, fl_nsub, fl_msub, fl_nle, fl_nlt, fl_neq, fl_nclamp, fl_nin, fl_ltT, fl_ltF, fl_leT, fl_leF, fl_eqT, fl_eqF, decide_true, decide_false, Bool.true_and, Bool.and_true, Bool.false_and, Bool.and_false, if_true, if_false, Bool.false_eq_true, Option.isSome_some, Option.getD_some, not_true_eq_false, not_false_eq_true, Option.toList_some, Option.toList_none, List.cons_append, List.nil_append, fbC_82_33, a2, e3, fbP_82_51, a3]
    · have : fl_why L il 4 n a = ((1, L) :: (if il = true then [(2, L)] else [])) ++ [(4, a)] := by
        unfold fl_why
        rw [if_neg (show ¬ (4 = 5) by decide)]
        cases il <;> rfl
      rw [this]; exact z3
  · subst k5
    obtain ⟨h3, e3, d3, z3⟩ := fr_81 g2 z2 (by omega) 5 n
    have g3 := fl_df_g g2 d3
    have len3 : (((1, L) :: (if il = true then [(2, L)] else [])) ++ [(5, n)] : List (Nat × Nat)).length < 4 := by rw [List.length_append]; show _ + 1 < 4; omega
    have a3 : fl_i h3 259 5 = Int32.ofNat a := by rw [(d3.2.2.2 259 5 (by omega)).1]; exact a2
    obtain ⟨h4, e4, d4, z4⟩ := fr_81 g3 z3 len3 3 a
    have g4 := fl_df_g g3 d4
    have a4 : fl_i h4 259 5 = Int32.ofNat a := by rw [(d4.2.2.2 259 5 (by omega)).1]; exact a3
    refine ⟨h4, ?_, fl_df_tr d02 (fl_df_tr d3 d4), ?_⟩
    · clear z0 d0 d1 z1 d2 z2 d02 d3 z3 len len3 d4 z4
      rw [fbC_82_21]
      simp (disch := omega) only [g2.1, g3.1, g4.1, fl_KM, fl_RM, fl_lit, fl_nadd, fl_nmul, fl_ndiv, fl_nsub, fl_msub, fl_nle, fl_nlt, fl_neq, fl_nclamp, fl_nin, fl_ltT, fl_ltF, fl_leT, fl_leF, fl_eqT, fl_eqF, decide_true, decide_false, Bool.true_and, Bool.and_true, Bool.false_and, Bool.and_false, if_true, if_false, Bool.false_eq_true, Option.isSome_some, Option.getD_some, not_true_eq_false, not_false_eq_true, Option.toList_some, Option.toList_none, List.cons_append, List.nil_append, e3, fbP_82_33, fbC_82_33, a3, e4, fbP_82_51, a4]
    · have : fl_why L il 5 n a = (((1, L) :: (if il = true then [(2, L)] else [])) ++ [(5, n)]) ++ [(3, a)] := by
        unfold fl_why
        rw [if_pos rfl]
        cases il <;> rfl
      rw [this]; exact z4
theorem fr_78 (sk : fl_sk k0 i0) (hs : fl_st k0 i0 h) (hg : fl_g k0 h) (x : fl_xT h tn tx) (e5 : fl_i h 259 5 = Int32.ofNat a) (ha : a < 900) {i : Nat} (hi : i < 7) : fl_cl fl_C 78 [.ref 259, .ref (1048576 + i)] h = some (some (some (.int (if a < tn then fl_ix i (tx a) else -Int32.ofNat 1))), h) := by
  have i6 := x.2.1
  have t80 := x.1
  by_cases q : a < tn
  · rw [if_pos q]
    have t := (x.2.2 a q).2
    have e77 := fr_77 sk hg hs hi (Int32.ofNat (tx a))
    have : fl_oi (fl_any (fun j => decide (fl_sb8 i j = Int32.ofNat (tx a))) (fl_sl8 i)) (fl_frst (fun j => decide (fl_sb8 i j = Int32.ofNat (tx a))) (fl_sl8 i)) = fl_ix i (tx a) := rfl
    rw [this] at e77
    clear x hs this
    generalize fl_ix i (tx a) = IX at *
    rw [fbE_78]
    simp (disch := omega) only [hg.1, hg.2, fl_KM, fl_RM, fl_lit, fl_nadd, fl_nmul, fl_ndiv, fl_nsub, fl_msub, fl_nle, fl_nlt, fl_neq, fl_nclamp, fl_nin, fl_ltT, fl_ltF, fl_leT, fl_leF, fl_eqT, fl_eqF, decide_true, decide_false, Bool.true_and, Bool.and_true, Bool.false_and, Bool.and_false, if_true, if_false, Bool.false_eq_true, Option.isSome_some, Option.getD_some, not_true_eq_false, not_false_eq_true, Option.toList_some, Option.toList_none, List.cons_append, List.nil_append, i6, e5, t, e77, fbP_78_24]
  · rw [if_neg q]
    clear x hs
    rw [fbE_78]
    simp (disch := omega) only [hg.1, hg.2, fl_KM, fl_RM, fl_lit, fl_nadd, fl_nmul, fl_ndiv, fl_nsub, fl_msub, fl_nle, fl_nlt, fl_neq, fl_nclamp, fl_nin, fl_ltT, fl_ltF, fl_leT, fl_leF, fl_eqT, fl_eqF, decide_true, decide_false, Bool.true_and, Bool.and_true, Bool.false_and, Bool.and_false, if_true, if_false, Bool.false_eq_true, Option.isSome_some, Option.getD_some, not_true_eq_false, not_false_eq_true, Option.toList_some, Option.toList_none, List.cons_append, List.nil_append, i6, e5]
/-- a sign taken, if it is one of these -/
theorem fr_80 (sk : fl_sk k0 i0) (hs : fl_st k0 i0 h) (hg : fl_g k0 h) (x : fl_xT h tn tx) (e5 : fl_i h 259 5 = Int32.ofNat a) (ha : a < 900) {i : Nat} (hi : i < 7) : (∀ k, k < 100 → a < tn → fl_ix i (tx a) = Int32.ofNat k → ∃ y, fl_cl fl_C 80 [.ref 259, .ref (1048576 + i)] h = some (some (some (.int (Int32.ofNat k))), y) ∧ fl_df (fun q j => q = 259 ∧ j = 5) h y ∧ fl_i y 259 5 = Int32.ofNat (a + 1)) ∧ ((a < tn → fl_ix i (tx a) = -Int32.ofNat 1) → ∃ y, fl_cl fl_C 80 [.ref 259, .ref (1048576 + i)] h = some (some (some (.int (-Int32.ofNat 1))), y) ∧ fl_df (fun q j => q = 259 ∧ j = 5) h y ∧ fl_i y 259 5 = Int32.ofNat a) := by
  have e78 := fr_78 sk hs hg x e5 ha hi
  have f1 := fr_79 (h := h) (Int32.ofNat 1)
  have f0 := fr_79 (h := h) (Int32.ofNat 0)
  rw [if_neg (by decide)] at f1
  rw [if_pos rfl] at f0
  refine ⟨fun k hk q e => ⟨fl_wi h 259 (fl_up (fl_i h 259) 5 (Int32.ofNat (a + 1))), ?_, fl_df_wiu fl_df_rfl ⟨rfl, rfl⟩, by rw [fl_i_wi, if_pos rfl, fl_up_self]⟩, fun e => ⟨fl_wi h 259 (fl_up (fl_i h 259) 5 (Int32.ofNat (a + 0))), ?_, fl_df_wiu fl_df_rfl ⟨rfl, rfl⟩, by rw [fl_i_wi, if_pos rfl, fl_up_self]; rfl⟩⟩
  · rw [if_pos q, e] at e78
    clear x hs e f0
    rw [fbE_80]
    simp (disch := omega) only [fl_si_wi, hg.1, fl_KM, fl_RM, fl_lit, fl_nadd, fl_nmul, fl_ndiv, fl_nsub, fl_msub, fl_nle, fl_nlt, fl_neq, fl_nclamp, fl_nin, fl_ltT, fl_ltF, fl_leT, fl_leF, fl_eqT, fl_eqF, decide_true, decide_false, Bool.true_and, Bool.and_true, Bool.false_and, Bool.and_false, if_true, if_false, Bool.false_eq_true, Option.isSome_some, Option.getD_some, not_true_eq_false, not_false_eq_true, Option.toList_some, Option.toList_none, List.cons_append, List.nil_append, e78, fbP_80_5, e5, f1, fbP_80_23, fbC_80_27]
  · have e78' : fl_cl fl_C 78 [.ref 259, .ref (1048576 + i)] h = some (some (some (.int (-Int32.ofNat 1))), h) := by
      rw [e78]
      by_cases q : a < tn
      · rw [if_pos q, e q]
      · rw [if_neg q]
    have mm : (-Int32.ofNat 1 < Int32.ofNat 0) = True := eq_true (by decide)
    clear x hs e f1 e78
    rw [fbE_80]
    simp (disch := omega) only [fl_si_wi, hg.1, fl_KM, fl_RM, fl_lit, fl_nadd, fl_nmul, fl_ndiv, fl_nsub, fl_msub, fl_nle, fl_nlt, fl_neq, fl_nclamp, fl_nin, fl_ltT, fl_ltF, fl_leT, fl_leF, fl_eqT, fl_eqF, decide_true, decide_false, Bool.true_and, Bool.and_true, Bool.false_and, Bool.and_false, if_true, if_false, Bool.false_eq_true, Option.isSome_some, Option.getD_some, not_true_eq_false, not_false_eq_true, Option.toList_some, Option.toList_none, List.cons_append, List.nil_append, e78', fbP_80_5, mm, e5, f0, fbP_80_23, fbC_80_27]
end
