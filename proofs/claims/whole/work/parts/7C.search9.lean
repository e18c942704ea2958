/-! A SEARCH: bounds; the reference's, whole; the class forgets -/
section
variable {k0 : Nat → Nat × Nat} {h : fl_H} {g ρ : Nat → Nat} {S : fl_Se}
abbrev fl_ab (x : Nat × (Nat → Nat)) : Prop := 1 ≤ x.1 ∧ x.1 ≤ 6 ∧ ∀ j, j < x.1 → x.2 j < 16
theorem fl_ans_b (J : fl_J0 g S) {i n : Nat} (hi : i < S.1) (d6 : (S.2.1 i).2.2.1 < 6) (hn : n < 16) : fl_ab (fl_ans S.2.1 i n) := by
  unfold fl_ans
  refine ⟨by dsimp only; omega, by dsimp only; omega, fun j hj => ?_⟩
  dsimp only at hj ⊢
  by_cases q : j = (S.2.1 i).2.2.1
  · rw [q, fl_up_self]; exact hn
  · rw [fl_up_ne q]
    exact fl_rw_lt J _ i j hi rfl
theorem fl_inn_b (w : fl_wf g) {f i : Nat} : ∀ r n (S : fl_Se), fl_J0 g S → fl_J1 S i → i < S.1 → (S.2.1 i).2.2.1 < 6 → n + r = 2 ^ g 1 → (∀ S', fl_inn g f i r n S = .inl S' → fl_J0 g S' ∧ fl_J1 S' i ∧ i < S'.1) ∧ ∀ x, fl_inn g f i r n S = .inr x → fl_ab x
  | 0, n, S, J, L, hi, d6, hn => ⟨fun S' e => by rw [fl_inn] at e; cases e; exact ⟨J, L, hi⟩, fun x e => by rw [fl_inn] at e; cases e⟩
  | r + 1, n, S, J, L, hi, d6, hn => by
    have p16 := fl_p2 w.1.2.1
    have Jn := fl_J0_rch w (f := f) J hi L d6 (n := n) (by omega)
    cases c : fl_sh g f (S.2.1 i) n with
    | true =>
      refine ⟨fun S' e => ?_, fun x e => ?_⟩
      · rw [fl_inn, if_pos c] at e; cases e
      · rw [fl_inn, if_pos c] at e
        cases e
        exact fl_ans_b J hi d6 (by omega)
    | false =>
      have ih := fl_inn_b w (f := f) (i := i) r (n + 1) (fl_rch g S (fl_nxe g f i (S.2.1 i) n)) Jn.1 Jn.2.1 (by omega) (by rw [Jn.2.2.2 i hi]; exact d6) (by omega)
      refine ⟨fun S' e => ?_, fun x e => ?_⟩
      · rw [fl_inn, if_neg (by rw [c]; decide)] at e
        exact ih.1 S' e
      · rw [fl_inn, if_neg (by rw [c]; decide)] at e
        exact ih.2 x e
theorem fl_out_b (w : fl_wf g) {f : Nat} : ∀ r i (S : fl_Se), fl_J0 g S → fl_J1 S i → ∀ x, fl_out g f r i S = some x → fl_ab x
  | 0, i, S, J, L, x, e => by rw [fl_out] at e; cases e
  | r + 1, i, S, J, L, x, e => by
    rw [fl_out] at e
    by_cases c : i < S.1 ∧ (S.2.1 i).2.2.1 < 6
    · rw [if_pos c] at e
      have b := fl_inn_b w (f := f) (2 ^ g 1) 0 S J L c.1 c.2 (by omega)
      cases q : fl_inn g f i (2 ^ g 1) 0 S with
      | inl S' =>
        rw [q] at e
        have b1 := b.1 S' q
        exact fl_out_b w r (i + 1) S' b1.1 (fl_J1_up b1.1 b1.2.2 b1.2.1) x e
      | inr x' =>
        rw [q] at e
        have b1 := b.2 x' q
        cases e
        exact b1
    · rw [if_neg c] at e
      cases e
theorem fl_few_b (w : fl_wf g) {f : Nat} {x : Nat × (Nat → Nat)} (e : fl_few g f = some x) : fl_ab x := fl_out_b w 729 0 _ (fl_J0_0 w).1 (fl_J0_0 w).2 x e
theorem fr_225 (hg : fl_g k0 h) (m : fl_mm h g) (w : fl_wf g) {f : Nat} (hf : f < 2 * (g 0 + g 2)) : ∃ v y, fl_cl fl_C 225 [.ref 259, .int (Int32.ofNat f)] h = some (some v, y) ∧ fl_df fl_scr h y ∧ fl_rz (fl_few g f) v y := by
  have w0 : g 0 ≤ 12 := w.1.2.2.2.1
  have rr : fl_r2 g (fun k => g (40 + k)) := fun k hk => fl_st_le w hk
  have e132 := fr_132 hg m w
  have d1 : fl_df fl_scr h (fl_wi h 267 (fl_ar (g 0) (fun k => g (40 + k)) (fl_i h 267))) := fl_df_wi fl_df_rfl (fun j z => absurd (by omega) z)
  have l1 : ∀ k, k < g 0 → fl_i (fl_wi h 267 (fl_ar (g 0) (fun k => g (40 + k)) (fl_i h 267))) 267 k = Int32.ofNat (g (40 + k)) := fun k hk => by rw [fl_i_wi, if_pos rfl, fl_ar_lt hk]
  generalize fl_wi h 267 (fl_ar (g 0) (fun k => g (40 + k)) (fl_i h 267)) = h1 at *
  have g1 := fl_df_g hg d1
  have m1 : fl_mm h1 g := fl_mm_df m d1 (fun j => by omega)
  have e220 := fr_220 (ρ := fun k => g (40 + k)) g1 m1 w (fun k hk _ => l1 k hk)
  have d2 : fl_df fl_scr h1 (fl_wi h1 277 (fl_up (fl_i h1 277) 0 (Int32.ofNat (fl_rp g (fl_en0 g))))) := fl_df_wiu fl_df_rfl (by omega)
  have l2 := fl_i_wi (h := h1) (q := 277) (g := fl_up (fl_i h1 277) 0 (Int32.ofNat (fl_rp g (fl_en0 g))))
  generalize h2e : fl_wi h1 277 (fl_up (fl_i h1 277) 0 (Int32.ofNat (fl_rp g (fl_en0 g)))) = h2 at *
  have g2 := fl_df_g g1 d2
  have d3 : fl_df fl_scr h2 (fl_wi h2 278 (fl_up (fl_i h2 278) 0 (-Int32.ofNat 1))) := fl_df_wiu fl_df_rfl (by omega)
  have l3 := fl_i_wi (h := h2) (q := 278) (g := fl_up (fl_i h2 278) 0 (-Int32.ofNat 1))
  generalize h3e : fl_wi h2 278 (fl_up (fl_i h2 278) 0 (-Int32.ofNat 1)) = h3 at *
  have g3 := fl_df_g g2 d3
  have d4 : fl_df fl_scr h3 (fl_wi h3 280 (fl_up (fl_i h3 280) 0 (Int32.ofNat 0))) := fl_df_wiu fl_df_rfl (by omega)
  have l4 := fl_i_wi (h := h3) (q := 280) (g := fl_up (fl_i h3 280) 0 (Int32.ofNat 0))
  generalize h4e : fl_wi h3 280 (fl_up (fl_i h3 280) 0 (Int32.ofNat 0)) = h4 at *
  have g4 := fl_df_g g3 d4
  have d5 : fl_df fl_scr h4 (fl_wi h4 259 (fl_up (fl_i h4 259) 29 (Int32.ofNat 1))) := fl_df_wiu fl_df_rfl (by omega)
  have l5 := fl_i_wi (h := h4) (q := 259) (g := fl_up (fl_i h4 259) 29 (Int32.ofNat 1))
  generalize h5e : fl_wi h4 259 (fl_up (fl_i h4 259) 29 (Int32.ofNat 1)) = h5 at *
  have dT : fl_df fl_scr h h5 := fl_df_tr d1 (fl_df_tr d2 (fl_df_tr d3 (fl_df_tr d4 d5)))
  have a7 : fl_i h5 277 0 = Int32.ofNat (fl_rp g (fl_en0 g)) := by rw [l5, if_neg (by decide), l4, if_neg (by decide), l3, if_neg (by decide), l2, if_pos rfl, fl_up_self]
  have a8 : fl_i h5 278 0 = -Int32.ofNat 1 := by rw [l5, if_neg (by decide), l4, if_neg (by decide), l3, if_pos rfl, fl_up_self]
  have a0 : fl_i h5 280 0 = Int32.ofNat 0 := by rw [l5, if_neg (by decide), l4, if_pos rfl, fl_up_self]
  have I : fl_rq h5 g (fl_s0 g) := by
    refine ⟨by rw [l5, if_pos rfl, fl_up_self]; rfl, fun k hk => ?_⟩
    have kz : k = 0 := Nat.lt_one_iff.mp hk
    subst kz
    exact ⟨a7, a0, fun _ => a8, fun z => absurd z (Nat.lt_irrefl 0)⟩
  have J := fl_J0_0 w
  obtain ⟨v, y, ey, dy, F⟩ := fr_225o w hf (Q := fun v z => fl_df fl_scr h5 z ∧ fl_rz (fl_few g f) v z) 729 0 (fl_s0 g) h5 ⟨fl_df_g hg dT, fl_mm_df m dT (fun j => by omega), I, J.1, J.2⟩ (Nat.zero_le _) (by omega) (fun v z dz F => ⟨dz, F⟩)
  refine ⟨v, y, ?_, fl_df_tr dT dy, F⟩
  have hrp : 27 * fl_cr g (fun k => g (40 + k)) + fl_cr g (fun k => g (40 + k)) = fl_rp g (fl_en0 g) := rfl
  clear m w d1 l1 m1 d2 l2 d3 l3 d4 l4 d5 l5 dT I J dy F rr a7 a8 a0
  generalize fl_cr g (fun k => g (40 + k)) = C at *
  generalize fl_rp g (fl_en0 g) = R at *
  rw [fbE_225]
  simp (disch := omega) only [fl_si_wi, hg.1, hg.2, g1.1, g1.2, g2.1, g2.2, g3.1, g3.2, g4.1, g4.2, fl_KM, fl_RM, fl_lit, fl_nadd, fl_nmul, fl_ndiv, fl_nsub, fl_msub, fl_nle, fl_nlt, fl_neq, fl_nclamp, fl_nin, fl_ltT, fl_ltF, fl_leT, fl_leF, fl_eqT, fl_eqF, decide_true, decide_false, Bool.true_and, Bool.and_true, Bool.false_and, Bool.and_false, if_true, if_false, Bool.false_eq_true, Option.isSome_some, Option.getD_some, not_true_eq_false, not_false_eq_true, Option.toList_some, Option.toList_none, List.cons_append, List.nil_append, e132, fbP_225_4, e220, fbP_225_15, fbP_225_20, hrp, h2e, fbC_225_22, h3e, fbC_225_29, h4e, fbC_225_36, h5e, fbC_225_41, ey]
theorem fc_206 {a : Nat} {lv : Nat → Bool} (V : fl_isV k0 a) (hg : fl_g k0 h) (w : fl_wf g) : ∃ y, fl_cl fl_C 206 [.ref a] h = some (some none, y) ∧ fl_df (fun q _ => q = a + 11) h y ∧ fl_mv y a lv g := by
  have v1 := V.1
  have c10 := V.2.2.1.1
  have e205 := fc_fill V.2.2.1 hg 0
  refine ⟨fl_wl h (a + 11) (fl_al 432 (fun _ => 0) (fl_l h (a + 11))), ?_, fl_df_wl fl_df_rfl (fun j z => absurd rfl z), fun ρ n r hn nz => ?_⟩
  · clear w V
    rw [fbE_206]
    simp (disch := omega) only [hg.1, hg.2, v1, c10, fl_lit, fl_nadd, fl_nmul, fl_ndiv, fl_nsub, fl_msub, fl_nle, fl_nlt, fl_neq, fl_nclamp, fl_nin, fl_ltT, fl_ltF, fl_leT, fl_leF, fl_eqT, fl_eqF, decide_true, decide_false, Bool.true_and, Bool.and_true, Bool.false_and, Bool.and_false, if_true, if_false, Bool.false_eq_true, Option.isSome_some, Option.getD_some, not_true_eq_false, not_false_eq_true, Option.toList_some, Option.toList_none, List.cons_append, List.nil_append, e205, fbP_206_8]
  · have lt := fl_cc_lt w r
    rw [fl_l_wl, if_pos rfl, fl_al_lt (by omega)] at nz
    exact absurd rfl nz
theorem fc_207 (hg : fl_g k0 h) (w : fl_wf g) : ∃ y, fl_cl fl_C 207 [.ref 214] h = some (some none, y) ∧ fl_df (fun q _ => q = 228 ∨ q = 244) h y ∧ fl_mgb y g := by
  have o214 := fl_o214 (k0 := k0)
  have v1 := (fl_o217 (k0 := k0)).1.1
  have u1 := (fl_o233 (k0 := k0)).1.1
  obtain ⟨y, ey, dy, My⟩ := fc_206 (lv := fun _ => false) (fl_o217 (k0 := k0)) hg w
  have gy := fl_df_g hg dy
  obtain ⟨z, ez, dz, Mz⟩ := fc_206 (lv := fl_lvf g) (fl_o233 (k0 := k0)) gy w
  refine ⟨z, ?_, fl_df_tr (fl_df_mo dy (fun q j z => by omega)) (fl_df_mo dz (fun q j z => by omega)), fl_mv_fr w My (fl_df_l dz (fun j => by omega)) (fl_df_l dz (fun j => by omega)) (fl_df_l dz (fun j => by omega)), Mz⟩
  clear w My Mz dy dz
  rw [fbE_207]
  simp (disch := omega) only [hg.1, hg.2, gy.1, gy.2, o214, v1, u1, fl_lit, fl_nadd, fl_nmul, fl_ndiv, fl_nsub, fl_msub, fl_nle, fl_nlt, fl_neq, fl_nclamp, fl_nin, fl_ltT, fl_ltF, fl_leT, fl_leF, fl_eqT, fl_eqF, decide_true, decide_false, Bool.true_and, Bool.and_true, Bool.false_and, Bool.and_false, if_true, if_false, Bool.false_eq_true, Option.isSome_some, Option.getD_some, not_true_eq_false, not_false_eq_true, Option.toList_some, Option.toList_none, List.cons_append, List.nil_append, ey, fbP_207_7, ez, fbP_207_14]
end
