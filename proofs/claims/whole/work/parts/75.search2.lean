/-! A SEARCH, the class's side: who is reached -/
/-- what the class keeps of a search -/
abbrev fl_cs (h : fl_H) (g : Nat → Nat) (S : fl_Se) : Prop := fl_i h 214 8 = Int32.ofNat S.1 ∧ (∀ c, c < 729 → fl_l h 250 c = if S.2.2 c = true then 1 else 0) ∧ ∀ k, k < S.1 → fl_l h 252 k = Int64.ofNat (fl_cpc g (S.2.1 k)) ∧ fl_l h 254 k = Int64.ofNat (S.2.1 k).2.2.1 ∧ (0 < k → fl_l h 256 k = Int64.ofNat (S.2.1 k).2.2.2.1 ∧ fl_l h 258 k = Int64.ofNat (S.2.1 k).2.2.2.2)
abbrev fl_Sf (q j : Nat) : Prop := (q = 214 ∧ j = 8) ∨ (249 ≤ q ∧ q ≤ 258)
abbrev fl_mgb (h : fl_H) (g : Nat → Nat) : Prop := fl_mv h 217 (fun _ => false) g ∧ fl_mv h 233 (fl_lvf g) g
section
variable {k0 : Nat → Nat × Nat} {h : fl_H} {g ρ : Nat → Nat} {a : Nat} {lv : Nat → Bool} {S : fl_Se}
theorem fl_o214 : fl_KK k0 214 = (1, 8) ∧ fl_RR 214 0 = some 215 ∧ fl_RR 214 1 = some 217 ∧ fl_RR 214 2 = some 233 ∧ fl_RR 214 3 = some 249 ∧ fl_RR 214 4 = some 251 ∧ fl_RR 214 5 = some 253 ∧ fl_RR 214 6 = some 255 ∧ fl_RR 214 7 = some 257 := ⟨rfl, rfl, rfl, rfl, rfl, rfl, rfl, rfl, rfl⟩
theorem fl_o215 : fl_isC k0 215 216 6 := ⟨rfl, rfl, rfl, by decide⟩
theorem fl_o249 : fl_isC k0 249 250 729 ∧ fl_isC k0 251 252 729 ∧ fl_isC k0 253 254 729 ∧ fl_isC k0 255 256 729 ∧ fl_isC k0 257 258 729 := ⟨⟨rfl, rfl, rfl, by decide⟩, ⟨rfl, rfl, rfl, by decide⟩, ⟨rfl, rfl, rfl, by decide⟩, ⟨rfl, rfl, rfl, by decide⟩, ⟨rfl, rfl, rfl, by decide⟩⟩
theorem fc_putX {q n i : Nat} (c : fl_isC k0 a q n) (hg : fl_g k0 h) (hi : i < n) (v : Int64) : ∃ y, fl_cl fl_C 20 [.ref a, .int (Int32.ofNat i), .long v] h = some (some none, y) ∧ fl_df (fun p j => p = q ∧ j = i) h y ∧ fl_l y q = fl_up (fl_l h q) i v := ⟨_, fc_put c hg hi v, fl_df_wlu fl_df_rfl ⟨rfl, rfl⟩, by rw [fl_l_wl, if_pos rfl]⟩
theorem fc_209n (hg : fl_g k0 h) {N C D B : Nat} (P : Int32) (iN : fl_i h 214 8 = Int32.ofNat N) (hN : N < 729) (hC : C < 729) (hD : D < 1000) (hB : B < 1000) (z : fl_l h 250 C = 0) : ∃ y, fl_cl fl_C 209 [.ref 214, .int (Int32.ofNat C), .int (Int32.ofNat D), .int P, .int (Int32.ofNat B)] h = some (some none, y) ∧ fl_df fl_Sf h y ∧ fl_i y 214 8 = Int32.ofNat (N + 1) ∧ fl_l y 250 = fl_up (fl_l h 250) C 1 ∧ fl_l y 252 = fl_up (fl_l h 252) N (Int64.ofNat C) ∧ fl_l y 254 = fl_up (fl_l h 254) N (Int64.ofNat D) ∧ fl_l y 256 = fl_up (fl_l h 256) N (Int32.toInt64 P) ∧ fl_l y 258 = fl_up (fl_l h 258) N (Int64.ofNat B) := by
  have o214 := fl_o214 (k0 := k0)
  have K := fl_o249 (k0 := k0)
  have e0 := fc_at K.1 hg hC
  rw [z] at e0
  obtain ⟨h1, p1, d1, l1⟩ := fc_putX K.1 hg hC 1
  have g1 := fl_df_g hg d1
  obtain ⟨h2, p2, d2, l2⟩ := fc_putX K.2.1 g1 hN (Int32.toInt64 (Int32.ofNat C))
  have g2 := fl_df_g g1 d2
  obtain ⟨h3, p3, d3, l3⟩ := fc_putX K.2.2.1 g2 hN (Int32.toInt64 (Int32.ofNat D))
  have g3 := fl_df_g g2 d3
  obtain ⟨h4, p4, d4, l4⟩ := fc_putX K.2.2.2.1 g3 hN (Int32.toInt64 P)
  have g4 := fl_df_g g3 d4
  obtain ⟨h5, p5, d5, l5⟩ := fc_putX K.2.2.2.2 g4 hN (Int32.toInt64 (Int32.ofNat B))
  have g5 := fl_df_g g4 d5
  have i1 : fl_i h1 214 8 = Int32.ofNat N := by rw [(d1.2.2.2 214 8 (by omega)).1]; exact iN
  have i2 : fl_i h2 214 8 = Int32.ofNat N := by rw [(d2.2.2.2 214 8 (by omega)).1]; exact i1
  have i3 : fl_i h3 214 8 = Int32.ofNat N := by rw [(d3.2.2.2 214 8 (by omega)).1]; exact i2
  have i4 : fl_i h4 214 8 = Int32.ofNat N := by rw [(d4.2.2.2 214 8 (by omega)).1]; exact i3
  have i5 : fl_i h5 214 8 = Int32.ofNat N := by rw [(d5.2.2.2 214 8 (by omega)).1]; exact i4
  have c1 := K.1.1
  have c2 := K.2.1.1
  have c3 := K.2.2.1.1
  have c4 := K.2.2.2.1.1
  have c5 := K.2.2.2.2.1
  have zz : (lg_cmp 0 0 = Int32.ofNat 0) = True := eq_true (fl_cmp0.mpr rfl)
  have dA : fl_df fl_Sf h h5 := fl_df_tr (fl_df_mo d1 (fun q j z => Or.inr (by omega))) (fl_df_tr (fl_df_mo d2 (fun q j z => Or.inr (by omega))) (fl_df_tr (fl_df_mo d3 (fun q j z => Or.inr (by omega))) (fl_df_tr (fl_df_mo d4 (fun q j z => Or.inr (by omega))) (fl_df_mo d5 (fun q j z => Or.inr (by omega))))))
  refine ⟨fl_wi h5 214 (fl_up (fl_i h5 214) 8 (Int32.ofNat (N + 1))), ?_, fl_df_wiu dA (Or.inl ⟨rfl, rfl⟩), ?_, ?_, ?_, ?_, ?_, ?_⟩
  · clear d1 d2 d3 d4 d5 dA l1 l2 l3 l4 l5 K iN z
    rw [fbE_209]
    simp (disch := omega) only [fl_si_wi, hg.1, hg.2, g1.1, g1.2, g2.1, g2.2, g3.1, g3.2, g4.1, g4.2, g5.1, g5.2, o214, c1, c2, c3, c4, c5, fl_lit, fl_nadd, fl_nmul, fl_ndiv, fl_nsub, fl_msub, fl_nle, fl_nlt, fl_neq, fl_nclamp, fl_nin, fl_ltT, fl_ltF, fl_leT, fl_leF, fl_eqT, fl_eqF, decide_true, decide_false, Bool.true_and, Bool.and_true, Bool.false_and, Bool.and_false, if_true, if_false, Bool.false_eq_true, Option.isSome_some, Option.getD_some, not_true_eq_false, not_false_eq_true, Option.toList_some, Option.toList_none, List.cons_append, List.nil_append, e0, fbP_209_8, zz, p1, fbP_209_22, i1, p2, fbP_209_35, i2, p3, fbP_209_48, i3, p4, fbP_209_61, i4, p5, fbP_209_75, i5, fbC_209_85]
  · rw [fl_i_wi, if_pos rfl, fl_up_self]
  · rw [fl_l_wi, fl_df_l d5 (fun j => by omega), fl_df_l d4 (fun j => by omega), fl_df_l d3 (fun j => by omega), fl_df_l d2 (fun j => by omega), l1]
  · rw [fl_l_wi, fl_df_l d5 (fun j => by omega), fl_df_l d4 (fun j => by omega), fl_df_l d3 (fun j => by omega), l2, fl_df_l d1 (fun j => by omega), fl_i64 (by omega)]
  · rw [fl_l_wi, fl_df_l d5 (fun j => by omega), fl_df_l d4 (fun j => by omega), l3, fl_df_l d2 (fun j => by omega), fl_df_l d1 (fun j => by omega), fl_i64 (by omega)]
  · rw [fl_l_wi, fl_df_l d5 (fun j => by omega), l4, fl_df_l d3 (fun j => by omega), fl_df_l d2 (fun j => by omega), fl_df_l d1 (fun j => by omega)]
  · rw [fl_l_wi, l5, fl_df_l d4 (fun j => by omega), fl_df_l d3 (fun j => by omega), fl_df_l d2 (fun j => by omega), fl_df_l d1 (fun j => by omega), fl_i64 (by omega)]
theorem fc_209 (hg : fl_g k0 h) (I : fl_cs h g S) {e : fl_En} (P : Int32) (hP : 0 < S.1 → P = Int32.ofNat e.2.2.2.1) (hA : e.2.2.2.1 < 1000) (hD : e.2.2.1 < 1000) (hB : e.2.2.2.2 < 1000) (hC : fl_cpc g e < 729) (hN : S.2.2 (fl_cpc g e) = false → S.1 < 729) : ∃ y, fl_cl fl_C 209 [.ref 214, .int (Int32.ofNat (fl_cpc g e)), .int (Int32.ofNat e.2.2.1), .int P, .int (Int32.ofNat e.2.2.2.2)] h = some (some none, y) ∧ fl_df fl_Sf h y ∧ fl_cs y g (fl_rch g S e) := by
  have z := I.2.1 _ hC
  unfold fl_rch
  by_cases c : S.2.2 (fl_cpc g e) = true
  · rw [if_pos c] at z ⊢
    refine ⟨h, ?_, fl_df_rfl, I⟩
    have o214 := fl_o214 (k0 := k0)
    have c1 := (fl_o249 (k0 := k0)).1.1
    have e0 := fc_at (fl_o249 (k0 := k0)).1 hg hC
    rw [z] at e0
    have zz : (lg_cmp 1 0 = Int32.ofNat 0) = False := eq_false (fun q => absurd (fl_cmp0.mp q) (by decide))
    clear I z
    generalize fl_cpc g e = C at *
    rw [fbE_209]
    simp (disch := omega) only [hg.1, hg.2, o214, c1, fl_lit, fl_nadd, fl_nmul, fl_ndiv, fl_nsub, fl_msub, fl_nle, fl_nlt, fl_neq, fl_nclamp, fl_nin, fl_ltT, fl_ltF, fl_leT, fl_leF, fl_eqT, fl_eqF, decide_true, decide_false, Bool.true_and, Bool.and_true, Bool.false_and, Bool.and_false, if_true, if_false, Bool.false_eq_true, Option.isSome_some, Option.getD_some, not_true_eq_false, not_false_eq_true, Option.toList_some, Option.toList_none, List.cons_append, List.nil_append, e0, fbP_209_8, zz, fbC_209_85]
  · rw [if_neg c] at z ⊢
    have cf : S.2.2 (fl_cpc g e) = false := by
      cases q : S.2.2 (fl_cpc g e) with
      | false => rfl
      | true => exact absurd q c
    obtain ⟨y, ey, dy, iN, l0, l2, l4, l6, l8⟩ := fc_209n hg P I.1 (hN cf) hC hD hB z
    refine ⟨y, ey, dy, iN, fun k hk => ?_, fun k hk => ?_⟩
    · rw [l0]
      by_cases q : k = fl_cpc g e
      · subst q
        rw [fl_up_self]
        show (1 : Int64) = if fl_up S.2.2 _ true _ = true then 1 else 0
        rw [fl_up_self, if_pos rfl]
      · rw [fl_up_ne q, I.2.1 k hk]
        show _ = if fl_up S.2.2 _ true _ = true then (1 : Int64) else 0
        rw [fl_up_ne q]
    · dsimp only at hk ⊢
      rw [l2, l4, l6, l8]
      by_cases q : k = S.1
      · subst q
        rw [fl_up_self, fl_up_self, fl_up_self, fl_up_self, fl_up_self]
        exact ⟨rfl, rfl, fun k1 => ⟨by rw [hP k1]; exact fl_i64 (by omega), rfl⟩⟩
      · rw [fl_up_ne q, fl_up_ne q, fl_up_ne q, fl_up_ne q, fl_up_ne q]
        exact I.2.2 k (by omega)
end
