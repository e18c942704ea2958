/-! A SEARCH, the reference's side: a pattern followed -/
section
variable {k0 : Nat → Nat × Nat} {h : fl_H} {g ρ : Nat → Nat} {S : fl_Se}
theorem fl_rq_df {y : fl_H} {T : Nat → Nat → Prop} (I : fl_rq h g S) (f : fl_df T h y) (z1 : ¬ T 259 29) (z : ∀ q j, 277 ≤ q → q ≤ 280 → ¬ T q j) : fl_rq y g S := by
  have e : ∀ q, 277 ≤ q → q ≤ 280 → fl_i y q = fl_i h q := fun q a b => fl_df_i f (fun j => z q j a b)
  refine ⟨by rw [(f.2.2.2 _ _ z1).1]; exact I.1, fun k hk => ?_⟩
  rw [e 277 (by omega) (by omega), e 278 (by omega) (by omega), e 279 (by omega) (by omega), e 280 (by omega) (by omega)]
  exact I.2 k hk
theorem fl_mm_df {y : fl_H} {T : Nat → Nat → Prop} (m : fl_mm h g) (f : fl_df T h y) (z : ∀ j, ¬ T 262 j) : fl_mm y g := fun j hj => by rw [(f.2.2.2 262 j (z j)).1]; exact m j hj
/-- the good values are kept -/
theorem fr_225g (hg : fl_g k0 h) (m : fl_mm h g) (w : fl_wf g) (F i n : Int32) : ∃ y, fl_Rn fl_C 225 100 [some (.ref 259), some (.int F), some (.int i), some (.int n), some (.int (Int32.ofNat 0))] [] h = fl_Rn fl_C 225 100 [some (.ref 259), some (.int F), some (.int i), some (.int n), some (.int (Int32.ofNat (g 0)))] [] y ∧ fl_df (fun q _ => q = 269) h y ∧ ∀ k, k < g 0 → fl_i y 269 k = fl_i h 266 k := by
  have w0 : g 0 ≤ 12 := w.1.2.2.2.1
  have lp := fl_iter (fun k => fl_Rn fl_C 225 100 [some (.ref 259), some (.int F), some (.int i), some (.int n), some (.int (Int32.ofNat k))] [] (fl_wi h 269 (fl_al k (fl_i h 266) (fl_i h 269)))) (g 0) (by
    intro k hk
    try dsimp only
    have hg' : fl_g k0 (fl_wi h 269 (fl_al k (fl_i h 266) (fl_i h 269))) := hg
    have m' : fl_mm (fl_wi h 269 (fl_al k (fl_i h 266) (fl_i h 269))) g := m
    have e95 := fr_95 hg' m'
    have e : fl_up (fl_al k (fl_i h 266) (fl_i h 269)) k (fl_i h 266 k) = fl_al (k + 1) (fl_i h 266) (fl_i h 269) := fl_al_succ rfl
    clear w m m' hg'
    rw [fbC_225_100, e95, fbP_225_106]
    simp (disch := omega) only [fl_k_wl, fl_r_wl, fl_i_wl, fl_l_wl, fl_1_wl, fl_k_wi, fl_r_wi, fl_l_wi, fl_1_wi, fl_i_wi, fl_k_si, fl_r_si, fl_l_si, fl_k_sl, fl_r_sl, fl_i_sl, fl_up_self, fl_up_ne, fl_si_wi, fl_sl_wl, fl_wi_wi, fl_wl_wl, hg.1, hg.2, fl_KM, fl_RM, fl_lit, fl_nadd, fl_nmul, fl_ndiv, fl_nsub, fl_msub, fl_nle, fl_nlt, fl_neq, fl_nclamp, fl_nin, fl_ltT, fl_ltF, fl_leT, fl_leF, fl_eqT, fl_eqF, decide_true, decide_false, Bool.true_and, Bool.and_true, Bool.false_and, Bool.and_false, if_true, if_false, Bool.false_eq_true, Option.isSome_some, Option.getD_some, not_true_eq_false, not_false_eq_true, Option.toList_some, Option.toList_none, List.cons_append, List.nil_append, fbC_225_122, fbC_225_123, fl_si_wi, fl_wi_wi, e])
  have e0 : h = fl_wi h 269 (fl_al 0 (fl_i h 266) (fl_i h 269)) := (fl_wi_self fl_al_0).symm
  have lp' := (congrArg (fun x => fl_Rn fl_C 225 100 [some (.ref 259), some (.int F), some (.int i), some (.int n), some (.int (Int32.ofNat 0))] [] x) e0).trans lp
  exact ⟨_, lp', fl_df_wi fl_df_rfl (fun j z => absurd rfl z), fun k hk => by rw [fl_i_wi, if_pos rfl, fl_al_lt hk]⟩
/-- who is found is laid behind the others -/
theorem fr_225p (hg : fl_g k0 h) {N C A B D F : Nat} (iN : fl_i h 259 29 = Int32.ofNat N) (hN : N < 729) (iD : fl_i h 280 A = Int32.ofNat D) (hA : A < N) : ∃ y, fl_ca fl_C 225 199 [some (.ref 259), some (.int (Int32.ofNat F)), some (.int (Int32.ofNat A)), some (.int (Int32.ofNat B)), none, some (.int (Int32.ofNat C))] [] [] (some (some (some (.int (Int32.ofNat 0))), h)) = fl_Rn fl_C 225 53 [some (.ref 259), some (.int (Int32.ofNat F)), some (.int (Int32.ofNat A)), some (.int (Int32.ofNat (B + 1)))] [] y ∧ fl_df fl_scr h y ∧ fl_i y 259 29 = Int32.ofNat (N + 1) ∧ fl_i y 277 = fl_up (fl_i h 277) N (Int32.ofNat C) ∧ fl_i y 278 = fl_up (fl_i h 278) N (Int32.ofNat A) ∧ fl_i y 279 = fl_up (fl_i h 279) N (Int32.ofNat B) ∧ fl_i y 280 = fl_up (fl_i h 280) N (Int32.ofNat (D + 1)) := by
  have d1 : fl_df fl_scr h (fl_wi h 277 (fl_up (fl_i h 277) N (Int32.ofNat C))) := fl_df_wiu fl_df_rfl (by omega)
  have l1 : ∀ q, fl_i (fl_wi h 277 (fl_up (fl_i h 277) N (Int32.ofNat C))) q = if q = 277 then fl_up (fl_i h 277) N (Int32.ofNat C) else fl_i h q := fun q => fl_i_wi q
  generalize h1e : fl_wi h 277 (fl_up (fl_i h 277) N (Int32.ofNat C)) = h1 at *
  have g1 := fl_df_g hg d1
  have d2 : fl_df fl_scr h1 (fl_wi h1 278 (fl_up (fl_i h1 278) N (Int32.ofNat A))) := fl_df_wiu fl_df_rfl (by omega)
  have l2 : ∀ q, fl_i (fl_wi h1 278 (fl_up (fl_i h1 278) N (Int32.ofNat A))) q = if q = 278 then fl_up (fl_i h1 278) N (Int32.ofNat A) else fl_i h1 q := fun q => fl_i_wi q
  generalize h2e : fl_wi h1 278 (fl_up (fl_i h1 278) N (Int32.ofNat A)) = h2 at *
  have g2 := fl_df_g g1 d2
  have d3 : fl_df fl_scr h2 (fl_wi h2 279 (fl_up (fl_i h2 279) N (Int32.ofNat B))) := fl_df_wiu fl_df_rfl (by omega)
  have l3 : ∀ q, fl_i (fl_wi h2 279 (fl_up (fl_i h2 279) N (Int32.ofNat B))) q = if q = 279 then fl_up (fl_i h2 279) N (Int32.ofNat B) else fl_i h2 q := fun q => fl_i_wi q
  generalize h3e : fl_wi h2 279 (fl_up (fl_i h2 279) N (Int32.ofNat B)) = h3 at *
  have g3 := fl_df_g g2 d3
  have d4 : fl_df fl_scr h3 (fl_wi h3 280 (fl_up (fl_i h3 280) N (Int32.ofNat (D + 1)))) := fl_df_wiu fl_df_rfl (by omega)
  have l4 : ∀ q, fl_i (fl_wi h3 280 (fl_up (fl_i h3 280) N (Int32.ofNat (D + 1)))) q = if q = 280 then fl_up (fl_i h3 280) N (Int32.ofNat (D + 1)) else fl_i h3 q := fun q => fl_i_wi q
  generalize h4e : fl_wi h3 280 (fl_up (fl_i h3 280) N (Int32.ofNat (D + 1))) = h4 at *
  have g4 := fl_df_g g3 d4
  have d5 : fl_df fl_scr h4 (fl_wi h4 259 (fl_up (fl_i h4 259) 29 (Int32.ofNat (N + 1)))) := fl_df_wiu fl_df_rfl (by omega)
  have l5 : ∀ q, fl_i (fl_wi h4 259 (fl_up (fl_i h4 259) 29 (Int32.ofNat (N + 1)))) q = if q = 259 then fl_up (fl_i h4 259) 29 (Int32.ofNat (N + 1)) else fl_i h4 q := fun q => fl_i_wi q
  generalize h5e : fl_wi h4 259 (fl_up (fl_i h4 259) 29 (Int32.ofNat (N + 1))) = h5 at *
  have i1 : fl_i h1 259 29 = Int32.ofNat N := by rw [l1, if_neg (by decide)]; exact iN
  have i2 : fl_i h2 259 29 = Int32.ofNat N := by rw [l2, if_neg (by decide)]; exact i1
  have i3 : fl_i h3 259 29 = Int32.ofNat N := by rw [l3, if_neg (by decide)]; exact i2
  have i4 : fl_i h4 259 29 = Int32.ofNat N := by rw [l4, if_neg (by decide)]; exact i3
  have iD3 : fl_i h3 280 A = Int32.ofNat D := by rw [l3, if_neg (by decide), l2, if_neg (by decide), l1, if_neg (by decide)]; exact iD
  refine ⟨h5, ?_, fl_df_tr d1 (fl_df_tr d2 (fl_df_tr d3 (fl_df_tr d4 d5))), ?_, ?_, ?_, ?_, ?_⟩
  · clear d1 d2 d3 d4 d5 l1 l2 l3 l4 l5 iD
    rw [fbP_225_199]
    simp (disch := omega) only [fl_si_wi, hg.1, hg.2, g1.1, g1.2, g2.1, g2.2, g3.1, g3.2, g4.1, g4.2, fl_KM, fl_RM, fl_lit, fl_nadd, fl_nmul, fl_ndiv, fl_nsub, fl_msub, fl_nle, fl_nlt, fl_neq, fl_nclamp, fl_nin, fl_ltT, fl_ltF, fl_leT, fl_leF, fl_eqT, fl_eqF, decide_true, decide_false, Bool.true_and, Bool.and_true, Bool.false_and, Bool.and_false, if_true, if_false, Bool.false_eq_true, Option.isSome_some, Option.getD_some, not_true_eq_false, not_false_eq_true, Option.toList_some, Option.toList_none, List.cons_append, List.nil_append, iN, h1e, fbC_225_216, i1, h2e, fbC_225_226, i2, h3e, fbC_225_236, iD3, i3, fbC_225_250, h4e, fbC_225_253, i4, h5e, fbC_225_263]
  · rw [l5, if_pos rfl, fl_up_self]
  · rw [l5, if_neg (by decide), l4, if_neg (by decide), l3, if_neg (by decide), l2, if_neg (by decide), l1, if_pos rfl]
  · rw [l5, if_neg (by decide), l4, if_neg (by decide), l3, if_neg (by decide), l2, if_pos rfl, l1, if_neg (by decide)]
  · rw [l5, if_neg (by decide), l4, if_neg (by decide), l3, if_pos rfl, l2, if_neg (by decide), l1, if_neg (by decide)]
  · rw [l5, if_neg (by decide), l4, if_pos rfl, l3, if_neg (by decide), l2, if_neg (by decide), l1, if_neg (by decide)]
end
