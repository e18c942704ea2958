/-! THE READER of the class: signs, causes -/
abbrev fl_cz (h : fl_H) (l : List (Nat × Nat)) : Prop := fl_i h 21 1 = Int32.ofNat 4 ∧ fl_i h 24 1 = Int32.ofNat 4 ∧ fl_i h 21 2 = Int32.ofNat l.length ∧ fl_i h 24 2 = Int32.ofNat l.length ∧ ∀ j, j < l.length → fl_l h 23 j = Int64.ofNat (l.getD j (0, 0)).1 ∧ fl_l h 26 j = Int64.ofNat (l.getD j (0, 0)).2
/-- it has read so far; it has refused -/
abbrev fl_ck (h : fl_H) (P : fl_Ps) : Prop := fl_i h 7 3 = Int32.ofNat P.1 ∧ fl_i h 7 4 = Int32.ofNat 0 ∧ fl_net h 8 P.2 ∧ fl_cz h []
abbrev fl_cf (h : fl_H) (e : fl_Fa) : Prop := fl_i h 7 3 = Int32.ofNat e.1 ∧ fl_i h 7 4 = Int32.ofNat 1 ∧ fl_cz h e.2
abbrev fl_Srd (q _j : Nat) : Prop := 7 ≤ q ∧ q ≤ 26
section
variable {k0 : Nat → Nat × Nat} {i0 : Nat → Nat → Int32} {h : fl_H} {g tx : Nat → Nat} {tn a : Nat} {P : fl_Ps} {l : List (Nat × Nat)}
theorem fl_o7 : fl_KK k0 7 = (1, 6) ∧ fl_RR 7 0 = some 8 ∧ fl_RR 7 1 = some 21 ∧ fl_RR 7 2 = some 24 := ⟨rfl, rfl, rfl, rfl⟩
theorem fl_iT_df {S : Nat → Nat → Prop} {y : fl_H} (I : fl_iT h tn tx) (f : fl_df S h y) (z : ∀ q j, S q j → (7 ≤ q ∧ q < 259) ∨ 261 < q ∨ (q = 259 ∧ j ≠ 4)) : fl_iT y tn tx := by
  have e : ∀ q j, q < 7 ∨ q = 261 ∨ (q = 259 ∧ j = 4) → fl_i y q j = fl_i h q j ∧ fl_l y q j = fl_l h q j := fun q j c => f.2.2.2 q j (fun s => by have := z q j s; omega)
  refine ⟨I.1, by rw [(e 259 4 (by omega)).1]; exact I.2.1, by rw [(e 1 1 (by omega)).1]; exact I.2.2.1, by rw [(e 1 2 (by omega)).1]; exact I.2.2.2.1, fun j hj => ?_⟩
  rw [(e 261 j (by omega)).1, (e 3 j (by omega)).2]
  exact I.2.2.2.2 j hj
/-- a pile, one more -/
theorem fc_32 {p n : Nat} {c : Nat} (o : fl_isP k0 p c) (hg : fl_g k0 h) (hn : n < c) (e1 : fl_i h p 1 = Int32.ofNat c) (e2 : fl_i h p 2 = Int32.ofNat n) (x : Int64) : ∃ y, fl_cl fl_C 32 [.ref p, .long x] h = some (some none, y) ∧ fl_df (fun q j => q = p ∧ j = 2 ∨ q = p + 2 ∧ j = n) h y ∧ fl_i y p 2 = Int32.ofNat (n + 1) ∧ fl_l y (p + 2) n = x := by
  have c9 : c < 100000 := o.2.2.2.2
  obtain ⟨y, ey, dy, ly⟩ := fc_putX o.2 hg hn x
  have gy := fl_df_g hg dy
  have y2 : fl_i y p 2 = Int32.ofNat n := by rw [(dy.2.2.2 p 2 (by omega)).1]; exact e2
  refine ⟨fl_wi y p (fl_up (fl_i y p) 2 (Int32.ofNat (n + 1))), ?_, fl_df_wiu (fl_df_mo dy (fun q j z => Or.inr z)) (Or.inl ⟨rfl, rfl⟩), by rw [fl_i_wi, if_pos rfl, fl_up_self], by rw [fl_l_wi, ly, fl_up_self]⟩
  have o1 := o.1
  have o2 := o.2.1
  clear dy ly o
  rw [fbE_32]
  simp (disch := omega) only [fl_si_wi, hg.1, hg.2, gy.1, gy.2, o1, o2, e1, e2, fl_lit, fl_nadd, fl_nmul, fl_ndiv, fl_nsub, fl_msub, fl_nle, fl_nlt, fl_neq, fl_nclamp, fl_nin, fl_ltT, fl_ltF, fl_leT, fl_leF, fl_eqT, fl_eqF, decide_true, decide_false, Bool.true_and, Bool.and_true, Bool.false_and, Bool.and_false, if_true, if_false, Bool.false_eq_true, Option.isSome_some, Option.getD_some, not_true_eq_false, not_false_eq_true, Option.toList_some, Option.toList_none, List.cons_append, List.nil_append, ey, fbP_32_23, y2, fbC_32_33]
theorem fc_43 (hg : fl_g k0 h) (z : fl_cz h l) (h4 : l.length < 4) (k n : Nat) (hk : k < 1000) (hn : n < 1000) : ∃ y, fl_cl fl_C 43 [.ref 7, .int (Int32.ofNat k), .int (Int32.ofNat n)] h = some (some none, y) ∧ fl_df (fun q _ => 21 ≤ q ∧ q ≤ 26) h y ∧ fl_cz y (l ++ [(k, n)]) := by
  have o7 := fl_o7 (k0 := k0)
  obtain ⟨y, ey, dy, y2, yl⟩ := fc_32 (fl_o21 (k0 := k0)) hg h4 z.1 z.2.2.1 (Int32.toInt64 (Int32.ofNat k))
  have gy := fl_df_g hg dy
  obtain ⟨w, ew, dw, w2, wl⟩ := fc_32 (fl_o24 (k0 := k0)) gy h4 (by rw [(dy.2.2.2 24 1 (by omega)).1]; exact z.2.1) (by rw [(dy.2.2.2 24 2 (by omega)).1]; exact z.2.2.2.1) (Int32.toInt64 (Int32.ofNat n))
  refine ⟨w, ?_, fl_df_tr (fl_df_mo dy (fun q j z => by omega)) (fl_df_mo dw (fun q j z => by omega)), ?_, ?_, ?_, ?_, fun j hj => ?_⟩
  · have o21 := (fl_o21 (k0 := k0)).1.1
    have o24 := (fl_o24 (k0 := k0)).1.1
    clear z dy dw
    rw [fbE_43]
    simp (disch := omega) only [hg.1, hg.2, gy.1, gy.2, o7, o21, o24, fl_lit, fl_nadd, fl_nmul, fl_ndiv, fl_nsub, fl_msub, fl_nle, fl_nlt, fl_neq, fl_nclamp, fl_nin, fl_ltT, fl_ltF, fl_leT, fl_leF, fl_eqT, fl_eqF, decide_true, decide_false, Bool.true_and, Bool.and_true, Bool.false_and, Bool.and_false, if_true, if_false, Bool.false_eq_true, Option.isSome_some, Option.getD_some, not_true_eq_false, not_false_eq_true, Option.toList_some, Option.toList_none, List.cons_append, List.nil_append, ey, fbP_43_9, ew, fbP_43_18]
  · rw [(dw.2.2.2 21 1 (by omega)).1, (dy.2.2.2 21 1 (by omega)).1]; exact z.1
  · rw [(dw.2.2.2 24 1 (by omega)).1, (dy.2.2.2 24 1 (by omega)).1]; exact z.2.1
  · rw [(dw.2.2.2 21 2 (by omega)).1, y2, List.length_append]; rfl
  · rw [w2, List.length_append]; rfl
  · rw [List.length_append] at hj
    have hj' : j < l.length + 1 := hj
    by_cases q : j = l.length
    · subst q
      rw [(dw.2.2.2 23 _ (by omega)).2, yl, wl, fl_i64 (by omega), fl_i64 (by omega), List.getD_eq_getElem?_getD, List.getElem?_append_right (Nat.le_refl _), Nat.sub_self]
      exact ⟨rfl, rfl⟩
    · have zz := z.2.2.2.2 j (by omega)
      rw [(dw.2.2.2 23 j (by omega)).2, (dy.2.2.2 23 j (by omega)).2, (dw.2.2.2 26 j (by omega)).2, (dy.2.2.2 26 j (by omega)).2, List.getD_eq_getElem?_getD, List.getElem?_append_left (by omega), ← List.getD_eq_getElem?_getD]
      exact zz
/-- it refuses -/
theorem fc_44 (hg : fl_g k0 h) (z : fl_cz h []) (e3 : fl_i h 7 3 = Int32.ofNat a) (ha : a < 1000) {L : Nat} (eL : fl_i h 8 1 = Int32.ofNat L) (hL : L < 1000) (il : Bool) {k n : Nat} (hk : k = 3 ∨ k = 4 ∨ k = 5) (hn : n < 1000) (hn2 : k ≠ 5 → n = a) : ∃ y, fl_cl fl_C 44 [.ref 7, .int (Int32.ofNat il.toNat), .int (Int32.ofNat k), .int (Int32.ofNat n)] h = some (some none, y) ∧ fl_df fl_Srd h y ∧ fl_cf y (a, fl_why L il k n a) := by
  have o7 := fl_o7 (k0 := k0)
  have o8 := (fl_o8 (k0 := k0)).1.1
  have d0 : fl_df (fun q j => q = 7 ∧ j = 4) h (fl_wi h 7 (fl_up (fl_i h 7) 4 (Int32.ofNat 1))) := fl_df_wiu fl_df_rfl ⟨rfl, rfl⟩
  have i4 : fl_i (fl_wi h 7 (fl_up (fl_i h 7) 4 (Int32.ofNat 1))) 7 4 = Int32.ofNat 1 := by rw [fl_i_wi, if_pos rfl, fl_up_self]
  generalize h0e : fl_wi h 7 (fl_up (fl_i h 7) 4 (Int32.ofNat 1)) = h0 at *
  have g0 := fl_df_g hg d0
  have e : ∀ q, 7 < q → fl_i h0 q = fl_i h q ∧ fl_l h0 q = fl_l h q := fun q z => ⟨fl_df_i d0 (fun j => by omega), fl_df_l d0 (fun j => by omega)⟩
  have z0 : fl_cz h0 [] := by
    refine ⟨by rw [(e 21 (by omega)).1]; exact z.1, by rw [(e 24 (by omega)).1]; exact z.2.1, by rw [(e 21 (by omega)).1]; exact z.2.2.1, by rw [(e 24 (by omega)).1]; exact z.2.2.2.1, fun j hj => absurd hj (Nat.not_lt_zero j)⟩
  have L0 : fl_i h0 8 1 = Int32.ofNat L := by rw [(e 8 (by omega)).1]; exact eL
  have a0 : fl_i h0 7 3 = Int32.ofNat a := by rw [(d0.2.2.2 7 3 (by omega)).1]; exact e3
  obtain ⟨h1, e1, d1, z1⟩ := fc_43 g0 z0 (by decide) 1 L (by omega) hL
  have g1 := fl_df_g g0 d1
  have L1 : fl_i h1 8 1 = Int32.ofNat L := by rw [fl_df_i d1 (fun j => by omega)]; exact L0
  have st : ∃ h2, fl_ca fl_C 44 17 [some (.ref 7), some (.int (Int32.ofNat il.toNat)), some (.int (Int32.ofNat k)), some (.int (Int32.ofNat n))] [] [] (some (some none, h1)) = fl_Rn fl_C 44 33 [some (.ref 7), none, some (.int (Int32.ofNat k)), some (.int (Int32.ofNat n))] [] h2 ∧ fl_df (fun q _ => 21 ≤ q ∧ q ≤ 26) h1 h2 ∧ fl_cz h2 ((1, L) :: (if il = true then [(2, L)] else [])) := by
    cases il with
    | false =>
      refine ⟨h1, ?_, fl_df_rfl, z1⟩
      clear z z0 d0 d1 z1 e
      rw [fbP_44_17]
      simp (disch := omega) only [fl_lit, fl_nadd, fl_nmul, fl_ndiv, fl_nsub, fl_msub, fl_nle, fl_nlt, fl_neq, fl_nclamp, fl_nin, fl_ltT, fl_ltF, fl_leT, fl_leF, fl_eqT, fl_eqF, decide_true, decide_false, Bool.true_and, Bool.and_true, Bool.false_and, Bool.and_false, if_true, if_false, Bool.false_eq_true, Option.isSome_some, Option.getD_some, not_true_eq_false, not_false_eq_true, Option.toList_some, Option.toList_none, List.cons_append, List.nil_append, Bool.toNat_false]
    | true =>
      obtain ⟨h2, e2, d2, z2⟩ := fc_43 g1 z1 (by show 1 < 4; decide) 2 L (by omega) hL
      refine ⟨h2, ?_, d2, z2⟩
      clear z z0 d0 d1 z1 d2 z2 e
      rw [fbP_44_17]
      simp (disch := omega) only [g1.1, g1.2, o7, o8, fl_lit, fl_nadd, fl_nmul, fl_ndiv, fl_nsub, fl_msub, fl_nle, fl_nlt, fl_neq, fl_nclamp, fl_nin, fl_ltT, fl_ltF, fl_leT, fl_leF, fl_eqT, fl_eqF, decide_true, decide_false, Bool.true_and, Bool.and_true, Bool.false_and, Bool.and_false, if_true, if_false, Bool.false_eq_true, Option.isSome_some, Option.getD_some, not_true_eq_false, not_false_eq_true, Option.toList_some, Option.toList_none, List.cons_append, List.nil_append, Bool.toNat_true, L1, e2, fbP_44_33]
  obtain ⟨h2, e2, d2, z2⟩ := st
  have g2 := fl_df_g g1 d2
  have len : ((1, L) :: (if il = true then [(2, L)] else []) : List (Nat × Nat)).length ≤ 2 := by
    cases il with
    | false => exact (show 1 ≤ 2 by decide)
    | true => exact (show 2 ≤ 2 by decide)
  obtain ⟨h3, e3', d3, z3⟩ := fc_43 g2 z2 (by omega) k n (by omega) hn
  have g3 := fl_df_g g2 d3
  have d03 : fl_df (fun q j => (q = 7 ∧ j = 4) ∨ (21 ≤ q ∧ q ≤ 26)) h h3 := fl_df_tr (fl_df_mo d0 (fun q j z => Or.inl z)) (fl_df_tr (fl_df_mo d1 (fun q j z => Or.inr z)) (fl_df_tr (fl_df_mo d2 (fun q j z => Or.inr z)) (fl_df_mo d3 (fun q j z => Or.inr z))))
  have a3 : fl_i h3 7 3 = Int32.ofNat a := by rw [(d03.2.2.2 7 3 (by omega)).1]; exact e3
  have r3 : fl_i h3 7 4 = Int32.ofNat 1 := by rw [fl_df_i d3 (fun j => by omega), fl_df_i d2 (fun j => by omega), fl_df_i d1 (fun j => by omega)]; exact i4
  by_cases k5 : k = 5
  · subst k5
    have len3 : (((1, L) :: (if il = true then [(2, L)] else [])) ++ [(5, n)] : List (Nat × Nat)).length < 4 := by rw [List.length_append]; show _ + 1 < 4; omega
    obtain ⟨h4, e4, d4, z4⟩ := fc_43 g3 z3 len3 3 a (by omega) ha
    refine ⟨h4, ?_, fl_df_tr (fl_df_mo d03 (fun q j z => by omega)) (fl_df_mo d4 (fun q j z => by omega)), by rw [fl_df_i d4 (fun j => by omega)]; exact a3, by rw [fl_df_i d4 (fun j => by omega)]; exact r3, ?_⟩
    · clear z z0 d0 d1 z1 d2 z2 d3 z3 d4 z4 d03 e r3 len len3
      rw [fbE_44]
      simp (disch := omega) only [fl_si_wi, hg.1, hg.2, g0.1, g0.2, g2.1, g3.1, o7, o8, fl_lit, fl_nadd, fl_nmul, fl_ndiv, fl_nsub, fl_msub, fl_nle, fl_nlt, fl_neq, fl_nclamp, fl_nin, fl_ltT, fl_ltF, fl_leT, fl_leF, fl_eqT, fl_eqF, decide_true, decide_false, Bool.true_and, Bool.and_true, Bool.false_and, Bool.and_false, if_true, if_false, Bool.false_eq_true, Option.isSome_some, Option.getD_some, not_true_eq_false, not_false_eq_true, Option.toList_some, Option.toList_none, List.cons_append, List.nil_append, fl_bT, h0e, fbC_44_5, L0, e1, e2, fbC_44_33, e3', fbP_44_39, a3, e4, fbP_44_53, fbC_44_53]
    · have : fl_why L il 5 n a = (((1, L) :: (if il = true then [(2, L)] else [])) ++ [(5, n)]) ++ [(3, a)] := by
        unfold fl_why
        rw [if_pos rfl]
        cases il <;> rfl
      rw [this]
      exact z4
  · refine ⟨h3, ?_, fl_df_mo d03 (fun q j z => by omega), a3, r3, ?_⟩
    · clear z z0 d0 d1 z1 d2 z2 d3 z3 d03 e r3 len
      rw [fbE_44]
      simp (disch := omega) only [fl_si_wi, hg.1, hg.2, g0.1, g0.2, g2.1, o7, o8, fl_lit, fl_nadd, fl_nmul, fl_ndiv, fl_nsub, fl_msub, fl_nle, fl_nlt, fl_neq, fl_nclamp, fl_nin, fl_ltT, fl_ltF, fl_leT, fl_leF, fl_eqT, fl_eqF, decide_true, decide_false, Bool.true_and, Bool.and_true, Bool.false_and, Bool.and_false, if_true, if_false, Bool.false_eq_true, Option.isSome_some, Option.getD_some, not_true_eq_false, not_false_eq_true, Option.toList_some, Option.toList_none, List.cons_append, List.nil_append, fl_bT, h0e, fbC_44_5, L0, e1, e2, fbC_44_33, e3', fbP_44_39, fbC_44_53]
    · have : fl_why L il k n a = ((1, L) :: (if il = true then [(2, L)] else [])) ++ [(k, n)] := by
        unfold fl_why
        rw [if_neg k5, hn2 k5]
        cases il <;> rfl
      rw [this]
      exact z3
end
