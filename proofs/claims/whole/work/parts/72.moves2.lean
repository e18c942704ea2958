/-! MOVES: a state held, what follows written down -/
section
variable {k0 : Nat → Nat × Nat} {h : fl_H} {g ρ : Nat → Nat} {a : Nat} {lv : Nat → Bool}
theorem fl_net_df {S : Nat → Nat → Prop} {x y : fl_H} (d : fl_net x 28 g) (f : fl_df S x y) (z : ∀ q j, S q j → q < 28 ∨ 40 < q) : fl_net y 28 g := fl_net_fr d (fl_df_i f (fun j s => by have := z _ _ s; omega)) (fun q z1 z2 => fl_df_l f (fun j s => by have := z _ _ s; omega))
theorem fc_210l (V : fl_isV k0 a) (ha : 40 < a) (w : fl_wf g) (r2 : fl_r2 g ρ) : ∀ n k (h : fl_H), fl_g k0 h → fl_net h 28 g → k + n = g 0 → ∃ y, fl_Rn fl_C 210 8 [some (.ref a), some (.ref 28), none, some (.int (Int32.ofNat (fl_cF g ρ n k))), some (.int (Int32.ofNat k))] [] h = some (some none, y) ∧ fl_df (fun q j => (q = a + 1 + 6 ∨ q = a + 1 + 8) ∧ k ≤ j) h y ∧ ∀ j, k ≤ j → j < g 0 → g (4 + j) = 8 → fl_l y (a + 1 + 6) j = fl_B (fun _ => decide (ρ j = 1)) ∧ fl_l y (a + 1 + 8) j = fl_B (fun _ => decide (ρ j = 0))
  | 0, k, h, hg, d, hk => by
    refine ⟨h, ?_, fl_df_rfl, fun j z1 z2 => by omega⟩
    have o28 := (fl_sk28 (k0 := k0)).1.1
    have w0 : g 0 ≤ 12 := w.1.2.2.2.1
    have i1 := d.1.2.1
    rw [show k = g 0 by omega, fl_cF]
    clear d w
    rw [fbC_210_8]
    simp (disch := omega) only [hg.1, o28, fl_lit, fl_nadd, fl_nmul, fl_ndiv, fl_nsub, fl_msub, fl_nle, fl_nlt, fl_neq, fl_nclamp, fl_nin, fl_ltT, fl_ltF, fl_leT, fl_leF, fl_eqT, fl_eqF, decide_true, decide_false, Bool.true_and, Bool.and_true, Bool.false_and, Bool.and_false, if_true, if_false, Bool.false_eq_true, Option.isSome_some, Option.getD_some, not_true_eq_false, not_false_eq_true, Option.toList_some, Option.toList_none, List.cons_append, List.nil_append, i1]
  | n + 1, k, h, hg, d, hk => by
    have N := fl_sk28 (k0 := k0)
    have o28 := N.1.1
    have w0 : g 0 ≤ 12 := w.1.2.2.2.1
    have kl : k < g 0 := by omega
    have e65 := fc_65 hg N w d kl
    have i1 := d.1.2.1
    have v1 := V.1
    have vs := V.2.1.1.1
    by_cases e : g (4 + k) = 8
    · rw [if_pos e] at e65
      have e25 := fc_25 hg V.2.1 (show k < 12 by omega) (r2 k kl)
      have d1 : fl_df (fun q j => (q = a + 1 + 6 ∨ q = a + 1 + 8) ∧ k ≤ j) h (fl_ww h (a + 1 + 6) (a + 1 + 8) (fl_up (fl_l h (a + 1 + 6)) k (fl_B (fun _ => decide (ρ k = 1)))) (fl_up (fl_l h (a + 1 + 8)) k (fl_B (fun _ => decide (ρ k = 0))))) := by
        unfold fl_ww
        exact fl_df_wl (fl_df_wl fl_df_rfl (fun j z => fl_up_ne (fun q => z ⟨Or.inl rfl, by omega⟩))) (fun j z => (fl_up_ne (fun q => z ⟨Or.inr rfl, by omega⟩)).trans (by rw [fl_l_wl, if_neg (by omega)]))
      have l6 := fl_ww_la (h := h) (a := a + 1 + 6) (b := a + 1 + 8) (A := fl_up (fl_l h (a + 1 + 6)) k (fl_B (fun _ => decide (ρ k = 1)))) (B := fl_up (fl_l h (a + 1 + 8)) k (fl_B (fun _ => decide (ρ k = 0)))) (by omega)
      have l8 := fl_ww_lb (h := h) (a := a + 1 + 6) (b := a + 1 + 8) (A := fl_up (fl_l h (a + 1 + 6)) k (fl_B (fun _ => decide (ρ k = 1)))) (B := fl_up (fl_l h (a + 1 + 8)) k (fl_B (fun _ => decide (ρ k = 0))))
      generalize fl_ww h (a + 1 + 6) (a + 1 + 8) (fl_up (fl_l h (a + 1 + 6)) k (fl_B (fun _ => decide (ρ k = 1)))) (fl_up (fl_l h (a + 1 + 8)) k (fl_B (fun _ => decide (ρ k = 0)))) = H at *
      have gH := fl_df_g hg d1
      obtain ⟨y, ey, dy, cy⟩ := fc_210l V ha w r2 n (k + 1) H gH (fl_net_df d d1 (fun q j z => by omega)) (by omega)
      have st : fl_Rn fl_C 210 8 [some (.ref a), some (.ref 28), none, some (.int (Int32.ofNat (fl_cF g ρ (n + 1) k))), some (.int (Int32.ofNat k))] [] h = some (some none, y) := by
        have b := r2 k kl
        have lt := fl_cF_27 w r2 (n := n + 1) (k := k) (by omega)
        rw [fl_cF, if_pos e] at lt ⊢
        have m1 : (ρ k + 3 * fl_cF g ρ n (k + 1)) % 3 = ρ k := by omega
        have m2 : (ρ k + 3 * fl_cF g ρ n (k + 1)) / 3 = fl_cF g ρ n (k + 1) := by omega
        have m3 : ρ k + 3 * fl_cF g ρ n (k + 1) - fl_cF g ρ n (k + 1) * 3 = ρ k := by omega
        generalize ρ k + 3 * fl_cF g ρ n (k + 1) = C at *
        clear d w N d1 V cy dy r2
        rw [fbC_210_8]
        simp (disch := omega) only [hg.1, hg.2, gH.1, gH.2, o28, v1, vs, fl_lit, fl_nadd, fl_nmul, fl_ndiv, fl_nsub, fl_msub, fl_nle, fl_nlt, fl_neq, fl_nclamp, fl_nin, fl_ltT, fl_ltF, fl_leT, fl_leF, fl_eqT, fl_eqF, decide_true, decide_false, Bool.true_and, Bool.and_true, Bool.false_and, Bool.and_false, if_true, if_false, Bool.false_eq_true, Option.isSome_some, Option.getD_some, not_true_eq_false, not_false_eq_true, Option.toList_some, Option.toList_none, List.cons_append, List.nil_append, i1, e65, fbP_210_23, m1, m2, m3, e25, fbP_210_38, fbC_210_42, ey]
      refine ⟨y, st, fl_df_tr d1 (fl_df_mo dy (fun q j z => by omega)), fun j z1 z2 z3 => ?_⟩
      by_cases jk : j = k
      · subst jk
        rw [(dy.2.2.2 _ _ (by omega)).2, (dy.2.2.2 _ _ (by omega)).2, l6, l8]
        exact ⟨fl_up_self, fl_up_self⟩
      · exact cy j (by omega) z2 z3
    · rw [if_neg e] at e65
      obtain ⟨y, ey, dy, cy⟩ := fc_210l V ha w r2 n (k + 1) h hg d (by omega)
      have st : fl_Rn fl_C 210 8 [some (.ref a), some (.ref 28), none, some (.int (Int32.ofNat (fl_cF g ρ (n + 1) k))), some (.int (Int32.ofNat k))] [] h = some (some none, y) := by
        rw [fl_cF, if_neg e]
        clear d w N V cy dy r2
        rw [fbC_210_8]
        simp (disch := omega) only [hg.1, hg.2, o28, fl_lit, fl_nadd, fl_nmul, fl_ndiv, fl_nsub, fl_msub, fl_nle, fl_nlt, fl_neq, fl_nclamp, fl_nin, fl_ltT, fl_ltF, fl_leT, fl_leF, fl_eqT, fl_eqF, decide_true, decide_false, Bool.true_and, Bool.and_true, Bool.false_and, Bool.and_false, if_true, if_false, Bool.false_eq_true, Option.isSome_some, Option.getD_some, not_true_eq_false, not_false_eq_true, Option.toList_some, Option.toList_none, List.cons_append, List.nil_append, i1, e65, fbP_210_23, fbC_210_42, ey]
      refine ⟨y, st, fl_df_mo dy (fun q j z => by omega), fun j z1 z2 z3 => ?_⟩
      by_cases jk : j = k
      · subst jk; exact absurd z3 e
      · exact cy j (by omega) z2 z3
theorem fc_210 (V : fl_isV k0 a) (ha : 40 < a) (hg : fl_g k0 h) (w : fl_wf g) (d : fl_net h 28 g) (r2 : fl_r2 g ρ) : ∃ y, fl_cl fl_C 210 [.ref a, .ref 28, .int (Int32.ofNat (fl_cc g ρ))] h = some (some none, y) ∧ fl_df (fun q _ => q = a + 1 + 6 ∨ q = a + 1 + 8) h y ∧ ∀ j, j < g 0 → g (4 + j) = 8 → fl_l y (a + 1 + 6) j = fl_B (fun _ => decide (ρ j = 1)) ∧ fl_l y (a + 1 + 8) j = fl_B (fun _ => decide (ρ j = 0)) := by
  have o28 := (fl_sk28 (k0 := k0)).1.1
  have w1 : g 1 ≤ g 0 := w.1.2.2.1
  have i0 := d.1.1
  obtain ⟨y, ey, dy, cy⟩ := fc_210l V ha w r2 (g 0 - g 1) (g 1) h hg d (by omega)
  refine ⟨y, ?_, fl_df_mo dy (fun q j z => z.1), fun j z1 z2 => ?_⟩
  · rw [fbE_210, hg.1, o28, fl_ifd rfl, i0]
    exact ey
  · by_cases l : j < g 1
    · have := (w.2.1 j l).1; omega
    · exact cy j (by omega) z1 z2
theorem fc_212o (V : fl_isV k0 a) (ha : 40 < a) (w : fl_wf g) {fr : Nat} (hf : fr + 7 ≤ 3024) : ∀ n j (h : fl_H), fl_g k0 h → fl_net h 28 g → j + n = g 3 → ∃ y, fl_Rn fl_C 212 78 [some (.ref a), some (.ref 28), some (.int (Int32.ofNat fr)), none, some (.int (Int32.ofNat j))] [] h = some (some none, y) ∧ fl_df (fun q i => (q = a + 13 ∨ q = a + 15) ∧ fr + 3 + j ≤ i ∧ i < fr + 7) h y ∧ ∀ i, j ≤ i → i < g 3 → fl_l y (a + 13) (fr + 3 + i) = fl_l h (a + 1 + 2) (g (72 + i)) ∧ fl_l y (a + 15) (fr + 3 + i) = fl_l h (a + 1 + 4) (g (72 + i))
  | 0, j, h, hg, d, hj => by
    refine ⟨h, ?_, fl_df_rfl, fun j z1 z2 => by omega⟩
    have o28 := (fl_sk28 (k0 := k0)).1.1
    have w0 : g 3 ≤ 4 := w.1.2.2.2.2.2.2.1
    have i1 := d.1.2.2.2.2
    rw [show j = g 3 by omega]
    clear d w
    rw [fbC_212_78]
    simp (disch := omega) only [hg.1, o28, fl_lit, fl_nadd, fl_nmul, fl_ndiv, fl_nsub, fl_msub, fl_nle, fl_nlt, fl_neq, fl_nclamp, fl_nin, fl_ltT, fl_ltF, fl_leT, fl_leF, fl_eqT, fl_eqF, decide_true, decide_false, Bool.true_and, Bool.and_true, Bool.false_and, Bool.and_false, if_true, if_false, Bool.false_eq_true, Option.isSome_some, Option.getD_some, not_true_eq_false, not_false_eq_true, Option.toList_some, Option.toList_none, List.cons_append, List.nil_append, i1]
  | n + 1, j, h, hg, d, hj => by
    have N := fl_sk28 (k0 := k0)
    have o28 := N.1
    have o11 := N.2.2.2.2.2.2.1
    have w3 : g 3 ≤ 4 := w.1.2.2.2.2.2.2.1
    have w0 : g 0 ≤ 12 := w.1.2.2.2.1
    have i1 := d.1.2.2.2.2
    have jl : j < g 3 := by omega
    have e24 := fc_int N.2.2.2.2.2.2 hg (show j < 4 by omega)
    rw [d.2.2.2.2.2.2 j jl, fl_o32] at e24
    have kl := w.2.2.2.2.2.1 j jl
    have e1 := fc_at V.2.1.2.1 hg (show g (72 + j) < 12 by omega)
    have p1 := fc_put V.2.2.2.1 hg (show fr + 3 + j < 3024 by omega) (fl_l h (a + 1 + 2) (g (72 + j)))
    have gA : ∀ A, fl_g k0 (fl_wl h (a + 13) A) := fun A => hg
    have e3 := fun A => fc_at V.2.1.2.2.1 (gA A) (show g (72 + j) < 12 by omega)
    have p3 : ∀ A v, fl_cl fl_C 20 [.ref (a + 14), .int (Int32.ofNat (fr + 3 + j)), .long v] (fl_wl h (a + 13) A) = some (some none, fl_ww h (a + 13) (a + 15) A (fl_up (fl_l h (a + 15)) (fr + 3 + j) v)) := fun A v => by
      rw [fc_put V.2.2.2.2 (gA A) (show fr + 3 + j < 3024 by omega), fl_l_wl, if_neg (by omega)]
      rfl
    have eL : ∀ A, fl_l (fl_wl h (a + 13) A) (a + 1 + 4) = fl_l h (a + 1 + 4) := fun A => by rw [fl_l_wl, if_neg (by omega)]
    have gk : ∀ A, fl_k (fl_wl h (a + 13) A) = fl_KK k0 := fun A => hg.1
    have gr : ∀ A, fl_r (fl_wl h (a + 13) A) = fl_RR := fun A => hg.2
    have d1 : fl_df (fun q i => (q = a + 13 ∨ q = a + 15) ∧ fr + 3 + j ≤ i ∧ i < fr + 7) h (fl_ww h (a + 13) (a + 15) (fl_up (fl_l h (a + 13)) (fr + 3 + j) (fl_l h (a + 1 + 2) (g (72 + j)))) (fl_up (fl_l h (a + 15)) (fr + 3 + j) (fl_l h (a + 1 + 4) (g (72 + j))))) := by
      unfold fl_ww
      exact fl_df_wl (fl_df_wl fl_df_rfl (fun i z => fl_up_ne (fun q => z ⟨Or.inl rfl, by omega, by omega⟩))) (fun i z => (fl_up_ne (fun q => z ⟨Or.inr rfl, by omega, by omega⟩)).trans (by rw [fl_l_wl, if_neg (by omega)]))
    have l6 := fl_ww_la (h := h) (a := a + 13) (b := a + 15) (A := fl_up (fl_l h (a + 13)) (fr + 3 + j) (fl_l h (a + 1 + 2) (g (72 + j)))) (B := fl_up (fl_l h (a + 15)) (fr + 3 + j) (fl_l h (a + 1 + 4) (g (72 + j)))) (by omega)
    have l8 := fl_ww_lb (h := h) (a := a + 13) (b := a + 15) (A := fl_up (fl_l h (a + 13)) (fr + 3 + j) (fl_l h (a + 1 + 2) (g (72 + j)))) (B := fl_up (fl_l h (a + 15)) (fr + 3 + j) (fl_l h (a + 1 + 4) (g (72 + j))))
    generalize hH : fl_ww h (a + 13) (a + 15) (fl_up (fl_l h (a + 13)) (fr + 3 + j) (fl_l h (a + 1 + 2) (g (72 + j)))) (fl_up (fl_l h (a + 15)) (fr + 3 + j) (fl_l h (a + 1 + 4) (g (72 + j)))) = H at *
    have gH := fl_df_g hg d1
    obtain ⟨y, ey, dy, cy⟩ := fc_212o V ha w hf n (j + 1) H gH (fl_net_df d d1 (fun q i z => by omega)) (by omega)
    have v1 := V.1
    have vs := V.2.1.1
    have c1 := V.2.1.2.1.1
    have c3 := V.2.1.2.2.1.1
    have c12 := V.2.2.2.1.1
    have c14 := V.2.2.2.2.1
    have st : fl_Rn fl_C 212 78 [some (.ref a), some (.ref 28), some (.int (Int32.ofNat fr)), none, some (.int (Int32.ofNat j))] [] h = some (some none, y) := by
      clear d w N d1 V cy dy l6 l8 gA
      generalize g (72 + j) = k at *
      rw [fbC_212_78]
      simp (disch := omega) only [hg.1, hg.2, gH.1, gH.2, o28, o11, v1, vs, c1, c3, c12, c14, fl_lit, fl_nadd, fl_nmul, fl_ndiv, fl_nsub, fl_msub, fl_nle, fl_nlt, fl_neq, fl_nclamp, fl_nin, fl_ltT, fl_ltF, fl_leT, fl_leF, fl_eqT, fl_eqF, decide_true, decide_false, Bool.true_and, Bool.and_true, Bool.false_and, Bool.and_false, if_true, if_false, Bool.false_eq_true, Option.isSome_some, Option.getD_some, not_true_eq_false, not_false_eq_true, Option.toList_some, Option.toList_none, List.cons_append, List.nil_append, i1, e24, fbP_212_96, e1, fbP_212_120, p1, fbP_212_123, gk, gr, e3, eL, fbP_212_145, p3, hH, fbP_212_148, ey]
    refine ⟨y, st, fl_df_tr d1 (fl_df_mo dy (fun q i z => by omega)), fun i z1 z2 => ?_⟩
    by_cases ij : i = j
    · subst ij
      rw [(dy.2.2.2 _ _ (by omega)).2, (dy.2.2.2 _ _ (by omega)).2, l6, l8]
      exact ⟨fl_up_self, fl_up_self⟩
    · have c := cy i (by omega) z2
      rw [(d1.2.2.2 (a + 1 + 2) (g (72 + i)) (by omega)).2, (d1.2.2.2 (a + 1 + 4) (g (72 + i)) (by omega)).2] at c
      exact c
theorem fc_212r (V : fl_isV k0 a) (ha : 40 < a) (w : fl_wf g) {fr : Nat} (hf : fr + 7 ≤ 3024) {Q : Option Value → fl_H → Prop} : ∀ n k (h : fl_H), fl_g k0 h → fl_net h 28 g → k + n = g 0 → (∀ y, fl_df (fun q i => (q = a + 13 ∨ q = a + 15) ∧ fr + fl_nr g k ≤ i ∧ i < fr + 3) h y → (∀ i, k ≤ i → i < g 0 → g (4 + i) = 8 → fl_l y (a + 13) (fr + fl_nr g i) = fl_l h (a + 1 + 6) i ∧ fl_l y (a + 15) (fr + fl_nr g i) = fl_l h (a + 1 + 8) i) → fl_to (fl_Rn fl_C 212 78 [some (.ref a), some (.ref 28), some (.int (Int32.ofNat fr)), none, some (.int (Int32.ofNat 0))] [] y) Q) → fl_to (fl_Rn fl_C 212 8 [some (.ref a), some (.ref 28), some (.int (Int32.ofNat fr)), some (.int (Int32.ofNat (fr + fl_nr g k))), some (.int (Int32.ofNat k))] [] h) Q
  | 0, k, h, hg, d, hk, hQ => by
    have o28 := (fl_sk28 (k0 := k0)).1.1
    have w0 : g 0 ≤ 12 := w.1.2.2.2.1
    have i1 := d.1.2.1
    have q := hQ h fl_df_rfl (fun j z1 z2 => by omega)
    have st : fl_Rn fl_C 212 8 [some (.ref a), some (.ref 28), some (.int (Int32.ofNat fr)), some (.int (Int32.ofNat (fr + fl_nr g k))), some (.int (Int32.ofNat k))] [] h = fl_Rn fl_C 212 78 [some (.ref a), some (.ref 28), some (.int (Int32.ofNat fr)), none, some (.int (Int32.ofNat 0))] [] h := by
      rw [show k = g 0 by omega]
      clear d w q hQ
      rw [fbC_212_8]
      simp (disch := omega) only [hg.1, o28, fl_lit, fl_nadd, fl_nmul, fl_ndiv, fl_nsub, fl_msub, fl_nle, fl_nlt, fl_neq, fl_nclamp, fl_nin, fl_ltT, fl_ltF, fl_leT, fl_leF, fl_eqT, fl_eqF, decide_true, decide_false, Bool.true_and, Bool.and_true, Bool.false_and, Bool.and_false, if_true, if_false, Bool.false_eq_true, Option.isSome_some, Option.getD_some, not_true_eq_false, not_false_eq_true, Option.toList_some, Option.toList_none, List.cons_append, List.nil_append, i1]
    rw [st]
    exact q
  | n + 1, k, h, hg, d, hk, hQ => by
    have N := fl_sk28 (k0 := k0)
    have o28 := N.1
    have w0 : g 0 ≤ 12 := w.1.2.2.2.1
    have kl : k < g 0 := by omega
    have e65 := fc_65 hg N w d kl
    have i1 := d.1.2.1
    have v1 := V.1
    have vs := V.2.1.1
    by_cases e : g (4 + k) = 8
    · rw [if_pos e] at e65
      have n3 := fl_nr_3 w (show k + 1 ≤ g 0 by omega)
      rw [fl_nr_y e] at n3
      have e1 := fc_at V.2.1.2.2.2.1 hg (show k < 12 by omega)
      have p1 := fc_put V.2.2.2.1 hg (show fr + fl_nr g k < 3024 by omega) (fl_l h (a + 1 + 6) k)
      have gA : ∀ A, fl_g k0 (fl_wl h (a + 13) A) := fun A => hg
      have e3 := fun A => fc_at V.2.1.2.2.2.2 (gA A) (show k < 12 by omega)
      have p3 : ∀ A v, fl_cl fl_C 20 [.ref (a + 14), .int (Int32.ofNat (fr + fl_nr g k)), .long v] (fl_wl h (a + 13) A) = some (some none, fl_ww h (a + 13) (a + 15) A (fl_up (fl_l h (a + 15)) (fr + fl_nr g k) v)) := fun A v => by
        rw [fc_put V.2.2.2.2 (gA A) (show fr + fl_nr g k < 3024 by omega), fl_l_wl, if_neg (by omega)]
        rfl
      have eL : ∀ A, fl_l (fl_wl h (a + 13) A) (a + 1 + 8) = fl_l h (a + 1 + 8) := fun A => by rw [fl_l_wl, if_neg (by omega)]
      have gk : ∀ A, fl_k (fl_wl h (a + 13) A) = fl_KK k0 := fun A => hg.1
      have gr : ∀ A, fl_r (fl_wl h (a + 13) A) = fl_RR := fun A => hg.2
      have d1 : fl_df (fun q i => (q = a + 13 ∨ q = a + 15) ∧ fr + fl_nr g k ≤ i ∧ i < fr + 3) h (fl_ww h (a + 13) (a + 15) (fl_up (fl_l h (a + 13)) (fr + fl_nr g k) (fl_l h (a + 1 + 6) k)) (fl_up (fl_l h (a + 15)) (fr + fl_nr g k) (fl_l h (a + 1 + 8) k))) := by
        unfold fl_ww
        exact fl_df_wl (fl_df_wl fl_df_rfl (fun i z => fl_up_ne (fun q => z ⟨Or.inl rfl, by omega, by omega⟩))) (fun i z => (fl_up_ne (fun q => z ⟨Or.inr rfl, by omega, by omega⟩)).trans (by rw [fl_l_wl, if_neg (by omega)]))
      have l6 := fl_ww_la (h := h) (a := a + 13) (b := a + 15) (A := fl_up (fl_l h (a + 13)) (fr + fl_nr g k) (fl_l h (a + 1 + 6) k)) (B := fl_up (fl_l h (a + 15)) (fr + fl_nr g k) (fl_l h (a + 1 + 8) k)) (by omega)
      have l8 := fl_ww_lb (h := h) (a := a + 13) (b := a + 15) (A := fl_up (fl_l h (a + 13)) (fr + fl_nr g k) (fl_l h (a + 1 + 6) k)) (B := fl_up (fl_l h (a + 15)) (fr + fl_nr g k) (fl_l h (a + 1 + 8) k))
      generalize hH : fl_ww h (a + 13) (a + 15) (fl_up (fl_l h (a + 13)) (fr + fl_nr g k) (fl_l h (a + 1 + 6) k)) (fl_up (fl_l h (a + 15)) (fr + fl_nr g k) (fl_l h (a + 1 + 8) k)) = H at *
      have gH := fl_df_g hg d1
      have ih := fc_212r V ha w hf (Q := Q) n (k + 1) H gH (fl_net_df d d1 (fun q i z => by omega)) (by omega)
      have c6 := V.2.1.2.2.2.1.1
      have c8 := V.2.1.2.2.2.2.1
      have c12 := V.2.2.2.1.1
      have c14 := V.2.2.2.2.1
      have nn : fl_nr g (k + 1) = fl_nr g k + 1 := fl_nr_y e
      have st : fl_Rn fl_C 212 8 [some (.ref a), some (.ref 28), some (.int (Int32.ofNat fr)), some (.int (Int32.ofNat (fr + fl_nr g k))), some (.int (Int32.ofNat k))] [] h = fl_Rn fl_C 212 8 [some (.ref a), some (.ref 28), some (.int (Int32.ofNat fr)), some (.int (Int32.ofNat (fr + fl_nr g (k + 1)))), some (.int (Int32.ofNat (k + 1)))] [] H := by
        rw [nn, ← Nat.add_assoc]
        clear d w N d1 V l6 l8 gA hQ ih
        generalize fr + fl_nr g k = P at *
        rw [fbC_212_8]
        simp (disch := omega) only [hg.1, hg.2, gH.1, gH.2, o28, v1, vs, c6, c8, c12, c14, fl_lit, fl_nadd, fl_nmul, fl_ndiv, fl_nsub, fl_msub, fl_nle, fl_nlt, fl_neq, fl_nclamp, fl_nin, fl_ltT, fl_ltF, fl_leT, fl_leF, fl_eqT, fl_eqF, decide_true, decide_false, Bool.true_and, Bool.and_true, Bool.false_and, Bool.and_false, if_true, if_false, Bool.false_eq_true, Option.isSome_some, Option.getD_some, not_true_eq_false, not_false_eq_true, Option.toList_some, Option.toList_none, List.cons_append, List.nil_append, i1, e65, fbP_212_23, e1, fbP_212_43, p1, fbP_212_46, gk, gr, e3, eL, fbP_212_63, p3, hH, fbP_212_66, fbC_212_69]
      rw [st]
      refine ih (fun y dy cy => hQ y (fl_df_tr d1 (fl_df_mo dy (fun q i z => by omega))) (fun i z1 z2 z3 => ?_))
      by_cases ij : i = k
      · subst ij
        rw [(dy.2.2.2 _ _ (by omega)).2, (dy.2.2.2 _ _ (by omega)).2, l6, l8]
        exact ⟨fl_up_self, fl_up_self⟩
      · have c := cy i (by omega) z2 z3
        rw [(d1.2.2.2 (a + 1 + 6) i (by omega)).2, (d1.2.2.2 (a + 1 + 8) i (by omega)).2] at c
        exact c
    · rw [if_neg e] at e65
      have nn : fl_nr g (k + 1) = fl_nr g k := fl_nr_n e
      have ih := fc_212r V ha w hf (Q := Q) n (k + 1) h hg d (by omega)
      have st : fl_Rn fl_C 212 8 [some (.ref a), some (.ref 28), some (.int (Int32.ofNat fr)), some (.int (Int32.ofNat (fr + fl_nr g k))), some (.int (Int32.ofNat k))] [] h = fl_Rn fl_C 212 8 [some (.ref a), some (.ref 28), some (.int (Int32.ofNat fr)), some (.int (Int32.ofNat (fr + fl_nr g (k + 1)))), some (.int (Int32.ofNat (k + 1)))] [] h := by
        rw [nn]
        clear d w N V hQ ih
        generalize fr + fl_nr g k = P at *
        rw [fbC_212_8]
        simp (disch := omega) only [hg.1, hg.2, o28, fl_lit, fl_nadd, fl_nmul, fl_ndiv, fl_nsub, fl_msub, fl_nle, fl_nlt, fl_neq, fl_nclamp, fl_nin, fl_ltT, fl_ltF, fl_leT, fl_leF, fl_eqT, fl_eqF, decide_true, decide_false, Bool.true_and, Bool.and_true, Bool.false_and, Bool.and_false, if_true, if_false, Bool.false_eq_true, Option.isSome_some, Option.getD_some, not_true_eq_false, not_false_eq_true, Option.toList_some, Option.toList_none, List.cons_append, List.nil_append, i1, e65, fbP_212_23, fbC_212_69]
      rw [st]
      refine ih (fun y dy cy => hQ y (fl_df_mo dy (fun q i z => by omega)) (fun i z1 z2 z3 => ?_))
      by_cases ij : i = k
      · subst ij; exact absurd z3 e
      · exact cy i (by omega) z2 z3
end
