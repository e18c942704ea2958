/-! MOVES: an entry; what is read of it -/
/-- what stands in an entry -/
abbrev fl_ec (h : fl_H) (a : Nat) (lv : Nat → Bool) (g : Nat → Nat) (e n : Nat) (ρ : Nat → Nat) : Prop :=
  (∀ k, k < g 0 → g (4 + k) = 8 → fl_l h (a + 13) (e * 7 + fl_nr g k) = fl_B (fun c => decide (fl_nxt g (fl_fa lv c) n ρ k = 1)) ∧ fl_l h (a + 15) (e * 7 + fl_nr g k) = fl_B (fun c => decide (fl_nxt g (fl_fa lv c) n ρ k = 0))) ∧
  ∀ j, j < g 3 → fl_l h (a + 13) (e * 7 + 3 + j) = fl_B (fun c => decide (fl_vv g (fl_fa lv c) n ρ (g (72 + j)) = 1)) ∧ fl_l h (a + 15) (e * 7 + 3 + j) = fl_B (fun c => decide (fl_vv g (fl_fa lv c) n ρ (g (72 + j)) = 0))
/-- entries made hold what they should -/
abbrev fl_mv (h : fl_H) (a : Nat) (lv : Nat → Bool) (g : Nat → Nat) : Prop := ∀ ρ n, fl_r2 g ρ → n < 16 → fl_l h (a + 11) (fl_cc g ρ * 16 + n) ≠ 0 → fl_ec h a lv g (fl_cc g ρ * 16 + n) n ρ
abbrev fl_SV (a q _j : Nat) : Prop := a + 2 ≤ q ∧ q ≤ a + 15
section
variable {k0 : Nat → Nat × Nat} {h : fl_H} {g ρ : Nat → Nat} {a : Nat} {lv : Nat → Bool}
theorem fl_ec_fr {y : fl_H} {e n : Nat} (w : fl_wf g) (E : fl_ec h a lv g e n ρ) (z : ∀ i, i < 7 → fl_l y (a + 13) (e * 7 + i) = fl_l h (a + 13) (e * 7 + i) ∧ fl_l y (a + 15) (e * 7 + i) = fl_l h (a + 15) (e * 7 + i)) : fl_ec y a lv g e n ρ := by
  have w3 : g 3 ≤ 4 := w.1.2.2.2.2.2.2.1
  refine ⟨fun k hk h8 => ?_, fun j hj => ?_⟩
  · have n3 := fl_nr_3 w (show k + 1 ≤ g 0 by omega)
    rw [fl_nr_y h8] at n3
    have q := z (fl_nr g k) (by omega)
    rw [q.1, q.2]
    exact E.1 k hk h8
  · have q := z (3 + j) (by omega)
    rw [← Nat.add_assoc] at q
    rw [q.1, q.2]
    exact E.2 j hj
theorem fc_212 (V : fl_isV k0 a) (ha : 40 < a) (hg : fl_g k0 h) (w : fl_wf g) (d : fl_net h 28 g) {fr : Nat} (hf : fr + 7 ≤ 3024) : ∃ y, fl_cl fl_C 212 [.ref a, .ref 28, .int (Int32.ofNat fr)] h = some (some none, y) ∧ fl_df (fun q i => (q = a + 13 ∨ q = a + 15) ∧ fr ≤ i ∧ i < fr + 7) h y ∧ (∀ k, k < g 0 → g (4 + k) = 8 → fl_l y (a + 13) (fr + fl_nr g k) = fl_l h (a + 1 + 6) k ∧ fl_l y (a + 15) (fr + fl_nr g k) = fl_l h (a + 1 + 8) k) ∧ ∀ j, j < g 3 → fl_l y (a + 13) (fr + 3 + j) = fl_l h (a + 1 + 2) (g (72 + j)) ∧ fl_l y (a + 15) (fr + 3 + j) = fl_l h (a + 1 + 4) (g (72 + j)) := by
  have o28 := (fl_sk28 (k0 := k0)).1.1
  have w1 : g 1 ≤ g 0 := w.1.2.2.1
  have i0 := d.1.1
  have en : fl_cl fl_C 212 [.ref a, .ref 28, .int (Int32.ofNat fr)] h = fl_Rn fl_C 212 8 [some (.ref a), some (.ref 28), some (.int (Int32.ofNat fr)), some (.int (Int32.ofNat (fr + fl_nr g (g 1)))), some (.int (Int32.ofNat (g 1)))] [] h := by
    rw [fl_nr_0 w _ (Nat.le_refl _), fbE_212, hg.1, o28, fl_ifd rfl, i0]
    rfl
  rw [en]
  suffices fl_to (fl_Rn fl_C 212 8 [some (.ref a), some (.ref 28), some (.int (Int32.ofNat fr)), some (.int (Int32.ofNat (fr + fl_nr g (g 1)))), some (.int (Int32.ofNat (g 1)))] [] h) (fun v y => v = none ∧ fl_df (fun q i => (q = a + 13 ∨ q = a + 15) ∧ fr ≤ i ∧ i < fr + 7) h y ∧ (∀ k, k < g 0 → g (4 + k) = 8 → fl_l y (a + 13) (fr + fl_nr g k) = fl_l h (a + 1 + 6) k ∧ fl_l y (a + 15) (fr + fl_nr g k) = fl_l h (a + 1 + 8) k) ∧ ∀ j, j < g 3 → fl_l y (a + 13) (fr + 3 + j) = fl_l h (a + 1 + 2) (g (72 + j)) ∧ fl_l y (a + 15) (fr + 3 + j) = fl_l h (a + 1 + 4) (g (72 + j))) by
    obtain ⟨v, y, e, rfl, r⟩ := this
    exact ⟨y, e, r⟩
  refine fc_212r V ha w hf (g 0 - g 1) (g 1) h hg d (by omega) (fun x dx cx => ?_)
  obtain ⟨y, ey, dy, cy⟩ := fc_212o V ha w hf (g 3) 0 x (fl_df_g hg dx) (fl_net_df d dx (fun q i z => by omega)) (by omega)
  refine ⟨_, y, ey, rfl, fl_df_tr (fl_df_mo dx (fun q i z => by omega)) (fl_df_mo dy (fun q i z => by omega)), fun k hk h8 => ?_, fun j hj => ?_⟩
  · have n3 := fl_nr_3 w (show k + 1 ≤ g 0 by omega)
    rw [fl_nr_y h8] at n3
    have k1 : g 1 ≤ k := by
      by_cases l : k < g 1
      · have := (w.2.1 k l).1; omega
      · omega
    rw [(dy.2.2.2 (a + 13) (fr + fl_nr g k) (by omega)).2, (dy.2.2.2 (a + 15) (fr + fl_nr g k) (by omega)).2]
    exact cx k k1 hk h8
  · have c := cy j (Nat.zero_le _) hj
    rw [(dx.2.2.2 (a + 1 + 2) (g (72 + j)) (by omega)).2, (dx.2.2.2 (a + 1 + 4) (g (72 + j)) (by omega)).2] at c
    exact c
theorem fc_213 (V : fl_isV k0 a) (ha : 40 < a) (hg : fl_g k0 h) (w : fl_wf g) (d : fl_net h 28 g) (r2 : fl_r2 g ρ) {n : Nat} (hn : n < 16) (M : fl_mv h a lv g) : ∃ y, fl_cl fl_C 213 [.ref a, .ref 28, .int (Int32.ofNat (fl_cc g ρ)), .int (Int32.ofNat n), .long (fl_B lv)] h = some (some (some (.int (Int32.ofNat (fl_cc g ρ * 16 + n)))), y) ∧ fl_df (fl_SV a) h y ∧ fl_mv y a lv g ∧ fl_ec y a lv g (fl_cc g ρ * 16 + n) n ρ := by
  have lt := fl_cc_lt w r2
  have v1 := V.1
  have c10 := V.2.2.1.1
  have eA := fc_at V.2.2.1 hg (show fl_cc g ρ * 16 + n < 432 by omega)
  by_cases z : fl_l h (a + 11) (fl_cc g ρ * 16 + n) = 0
  · have p1 := fc_put V.2.2.1 hg (show fl_cc g ρ * 16 + n < 432 by omega) 1
    have d1 : fl_df (fun q i => q = a + 11 ∧ i = fl_cc g ρ * 16 + n) h (fl_wl h (a + 11) (fl_up (fl_l h (a + 11)) (fl_cc g ρ * 16 + n) 1)) := fl_df_wlu fl_df_rfl ⟨rfl, rfl⟩
    generalize fl_wl h (a + 11) (fl_up (fl_l h (a + 11)) (fl_cc g ρ * 16 + n) 1) = h1 at *
    have g1 := fl_df_g hg d1
    have n1 : fl_net h1 28 g := fl_net_df d d1 (fun q i z => by omega)
    obtain ⟨h2, e2, d2, c2⟩ := fc_210 V ha g1 w n1 r2
    have g2 := fl_df_g g1 d2
    have n2 : fl_net h2 28 g := fl_net_df n1 d2 (fun q i z => by omega)
    have e211 := fc_211 g2 w n2 hn
    have p := fl_pn_ok (n := n) w.1.2.1
    have e115 := fc_115 g2 fl_sk28 V.2.1 w n2 (by omega) p.1 p.2 lv (fun _ => ρ) (fun _ => r2) c2
    have d3 : fl_df (fun q _ => a + 2 ≤ q ∧ q ≤ a + 9) h2 (fl_tc h2 (a + 1) g lv (fl_pn (g 1) n) (fun _ => ρ)) := fl_tc_df (fun q j z => by omega)
    have t1 := fun {j : Nat} (hj : j < g 0) => fl_tc_1 (h := h2) (o := a + 1) (lv := lv) (pt := fl_pn (g 1) n) (hd := fun _ => ρ) hj
    have t0 := fun {j : Nat} (hj : j < g 0) => fl_tc_0 (h := h2) (o := a + 1) (lv := lv) (pt := fl_pn (g 1) n) (hd := fun _ => ρ) hj
    have th1 := fun {j : Nat} (hj : g 1 ≤ j ∧ j < g 0 ∧ g (4 + j) = 8) => fl_tc_h1 (h := h2) (o := a + 1) (lv := lv) (pt := fl_pn (g 1) n) (hd := fun _ => ρ) hj
    have th0 := fun {j : Nat} (hj : g 1 ≤ j ∧ j < g 0 ∧ g (4 + j) = 8) => fl_tc_h0 (h := h2) (o := a + 1) (lv := lv) (pt := fl_pn (g 1) n) (hd := fun _ => ρ) hj
    generalize fl_tc h2 (a + 1) g lv (fl_pn (g 1) n) (fun _ => ρ) = h3 at *
    have g3 := fl_df_g g2 d3
    have n3 : fl_net h3 28 g := fl_net_df n2 d3 (fun q i z => by omega)
    obtain ⟨y, e4, d4, c4, o4⟩ := fc_212 V ha g3 w n3 (fr := (fl_cc g ρ * 16 + n) * 7) (by omega)
    have ec : fl_ec y a lv g (fl_cc g ρ * 16 + n) n ρ := by
      refine ⟨fun k hk h8 => ?_, fun j hj => ?_⟩
      · have k1 : g 1 ≤ k := by
          by_cases l : k < g 1
          · have := (w.2.1 k l).1; omega
          · omega
        rw [(c4 k hk h8).1, (c4 k hk h8).2, th1 ⟨k1, hk, h8⟩, th0 ⟨k1, hk, h8⟩]
        exact ⟨rfl, rfl⟩
      · have kl := w.2.2.2.2.2.1 j hj
        rw [(o4 j hj).1, (o4 j hj).2, t1 kl, t0 kl]
        exact ⟨rfl, rfl⟩
    have dT : fl_df (fun q i => (q = a + 11 ∧ i = fl_cc g ρ * 16 + n) ∨ (a + 2 ≤ q ∧ q ≤ a + 9) ∨ ((q = a + 13 ∨ q = a + 15) ∧ (fl_cc g ρ * 16 + n) * 7 ≤ i ∧ i < (fl_cc g ρ * 16 + n) * 7 + 7)) h y := fl_df_tr (fl_df_mo d1 (fun q j z => Or.inl z)) (fl_df_tr (fl_df_mo d2 (fun q j z => Or.inr (Or.inl (by omega)))) (fl_df_tr (fl_df_mo d3 (fun q j z => Or.inr (Or.inl (by omega)))) (fl_df_mo d4 (fun q j z => Or.inr (Or.inr z)))))
    refine ⟨y, ?_, fl_df_mo dT (fun q j z => by omega), fun ρ' n' r' hn' nz => ?_, ec⟩
    · have vs := V.2.1.1.1
      have o28 := (fl_sk28 (k0 := k0)).1.1
      have zz : (lg_cmp 0 0 = Int32.ofNat 0) = True := eq_true (fl_cmp0.mpr rfl)
      have c16 : fl_cc g ρ * 16 + n < 432 := by omega
      rw [z] at eA
      clear d w V M d1 d2 d3 d4 dT ec c2 c4 o4 t1 t0 th1 th0 n1 n2 n3 r2
      generalize fl_cc g ρ = C at *
      generalize fl_pn (g 1) n = P at *
      rw [fbE_213]
      simp (disch := omega) only [hg.1, hg.2, g1.1, g1.2, g2.1, g2.2, g3.1, g3.2, v1, c10, o28, vs, fl_lit, fl_nadd, fl_nmul, fl_ndiv, fl_nsub, fl_msub, fl_nle, fl_nlt, fl_neq, fl_nclamp, fl_nin, fl_ltT, fl_ltF, fl_leT, fl_leF, fl_eqT, fl_eqF, decide_true, decide_false, Bool.true_and, Bool.and_true, Bool.false_and, Bool.and_false, if_true, if_false, Bool.false_eq_true, Option.isSome_some, Option.getD_some, not_true_eq_false, not_false_eq_true, Option.toList_some, Option.toList_none, List.cons_append, List.nil_append, eA, fbP_213_17, zz, p1, fbP_213_32, e2, fbP_213_38, e211, fbP_213_48, e115, fbP_213_53, e4, fbP_213_63, fbC_213_63]
    · have lt' := fl_cc_lt w r'
      by_cases q : fl_cc g ρ' = fl_cc g ρ ∧ n' = n
      · have s := (fl_cc_eq w r' r2).mp q.1
        rw [q.1, q.2]
        have ev : ∀ f, fl_vv g f n ρ' = fl_vv g f n ρ := fun f => fl_vv_sr s
        have en : ∀ f, fl_nxt g f n ρ' = fl_nxt g f n ρ := fun f => by unfold fl_nxt; rw [ev]
        refine ⟨fun k hk h8 => ?_, fun j hj => ?_⟩
        · simp only [en]; exact ec.1 k hk h8
        · simp only [ev]; exact ec.2 j hj
      · have ne : fl_cc g ρ' * 16 + n' ≠ fl_cc g ρ * 16 + n := by omega
        rw [(dT.2.2.2 (a + 11) _ (by omega)).2] at nz
        exact fl_ec_fr w (M ρ' n' r' hn' nz) (fun i hi => ⟨(dT.2.2.2 _ _ (by omega)).2, (dT.2.2.2 _ _ (by omega)).2⟩)
  · refine ⟨h, ?_, fl_df_rfl, M, M ρ n r2 hn z⟩
    have zz : (lg_cmp (fl_l h (a + 11) (fl_cc g ρ * 16 + n)) 0 = Int32.ofNat 0) = False := eq_false (fun q => z (fl_cmp0.mp q))
    have c16 : fl_cc g ρ * 16 + n < 432 := by omega
    clear d w V M r2
    generalize fl_cc g ρ = C at *
    rw [fbE_213]
    simp (disch := omega) only [hg.1, hg.2, v1, c10, fl_lit, fl_nadd, fl_nmul, fl_ndiv, fl_nsub, fl_msub, fl_nle, fl_nlt, fl_neq, fl_nclamp, fl_nin, fl_ltT, fl_ltF, fl_leT, fl_leF, fl_eqT, fl_eqF, decide_true, decide_false, Bool.true_and, Bool.and_true, Bool.false_and, Bool.and_false, if_true, if_false, Bool.false_eq_true, Option.isSome_some, Option.getD_some, not_true_eq_false, not_false_eq_true, Option.toList_some, Option.toList_none, List.cons_append, List.nil_append, eA, fbP_213_17, zz, fbC_213_63]
end
