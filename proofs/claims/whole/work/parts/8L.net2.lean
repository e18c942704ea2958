/-! net: the reference's side; both alike -/
abbrev fl_Sm0 (q j : Nat) : Prop := fl_Srf q j ∨ (q = 259 ∧ (j = 0 ∨ j = 4 ∨ j = 6))
section
variable {k0 : Nat → Nat × Nat} {i0 : Nat → Nat → Int32} {h : fl_H} {g tx : Nat → Nat} {tn a : Nat} {P : fl_Ps} {c : Nat × Nat × Nat × Bool}
theorem fo_net_b0 (sk : fl_sk k0 i0) (hs : fl_st k0 i0 h) (hg : fl_g k0 h) (i4 : fl_i h 259 4 = Int32.ofNat tn) (t80 : tn ≤ 80) (ht : ∀ j, j < tn → tx j < 256 ∧ fl_i h 261 j = Int32.ofNat (tx j)) (n : ¬ ∃ P, fl_good tx tn P) : ∃ Y, fl_cl fl_C 89 [.ref 259] h = some (some (some (.int (fl_nan (fl_read tx tn)))), Y) ∧ fl_df fl_Sm0 h Y ∧ fl_i Y 259 4 = Int32.ofNat 0 ∧ fl_kz Y (fl_nca (fl_read tx tn)) := by
  obtain ⟨y, ey, dy, y4, y5, x⟩ := fr_89s hg i4 t80 ht
  have gy := fl_df_g hg dy
  obtain ⟨v, z, ez, dz, M⟩ := fr_86 sk (fl_df_st dy hs (fun q j z => by omega)) gy x y5
  have neg := fl_nan_neg t80 n
  have vn : v = fl_nan (fl_read tx tn) ∧ fl_kz z (fl_nca (fl_read tx tn)) := by
    cases q : fl_read tx tn with
    | inr e =>
      rw [q] at M
      exact ⟨M.1, M.2.2⟩
    | inl P =>
      have f : fl_any (fl_far P.2) (P.2 0) = true := by
        cases z : fl_any (fl_far P.2) (P.2 0) with
        | true => rfl
        | false => exact absurd ⟨P, q, z⟩ n
      rw [q] at M
      dsimp only at M
      rw [if_pos f] at M
      have e1 : fl_nan (.inl P) = -Int32.ofNat 200 := if_pos f
      have e2 : fl_nca (.inl P) = fl_toofar P.2 := if_pos f
      rw [e1, e2]
      exact M
  refine ⟨z, ?_, fl_df_tr (fl_df_mo dy (fun q j z => by omega)) (fl_df_mo dz (fun q j z => Or.inl z)), by rw [(dz.2.2.2 259 4 (by omega)).1]; exact y4, vn.2⟩
  rw [ey, ez, ← vn.1]
  rw [← vn.1] at neg
  have ne : (Int32.ofNat 0 ≤ v) = False := eq_false (by rw [Int32.not_le]; exact neg)
  clear x ht dy dz M vn hs n neg
  rw [fbP_89_18]
  simp (disch := omega) only [fl_lit, fl_nadd, fl_nmul, fl_ndiv, fl_nsub, fl_msub, fl_nle, fl_nlt, fl_neq, fl_nclamp, fl_nin, fl_ltT, fl_ltF, fl_leT, fl_leF, fl_eqT, fl_eqF, decide_true, decide_false, Bool.true_and, Bool.and_true, Bool.false_and, Bool.and_false, if_true, if_false, Bool.false_eq_true, Option.isSome_some, Option.getD_some, not_true_eq_false, not_false_eq_true, Option.toList_some, Option.toList_none, List.cons_append, List.nil_append, ne]
theorem fo_net_b (sk : fl_sk k0 i0) (hs : fl_st k0 i0 h) (hg : fl_g k0 h) (i4 : fl_i h 259 4 = Int32.ofNat tn) (t80 : tn ≤ 80) (ht : ∀ j, j < tn → tx j < 256 ∧ fl_i h 261 j = Int32.ofNat (tx j)) (G : fl_good tx tn P) : ∃ Y, fl_cl fl_C 89 [.ref 259] h = some (some (some (.int (fl_nan (fl_read tx tn)))), Y) ∧ fl_df fl_Sm h Y ∧ fl_i Y 259 4 = Int32.ofNat 0 ∧ fl_kz Y (fl_nca (fl_read tx tn)) ∧ fl_mm Y P.2 ∧ fl_l Y 263 0 = 0 := by
  obtain ⟨y, ey, dy, y4, y5, x⟩ := fr_89s hg i4 t80 ht
  have gy := fl_df_g hg dy
  obtain ⟨v, z, ez, dz, M⟩ := fr_86 sk (fl_df_st dy hs (fun q j z => by omega)) gy x y5
  have gz := fl_df_g gy dz
  rw [G.1] at M
  dsimp only at M
  rw [if_neg (by rw [G.2]; decide)] at M
  obtain ⟨v0, mr⟩ := M
  have na : fl_nan (fl_read tx tn) = Int32.ofNat (2 * (P.2 0 + P.2 2)) := by
    rw [G.1]
    exact if_neg (by rw [G.2]; decide)
  have nc : fl_nca (fl_read tx tn) = [] := by
    rw [G.1]
    exact if_neg (by rw [G.2]; decide)
  have d1 : fl_df (fun q j => q = 259 ∧ j = 11) z (fl_wi z 259 (fl_up (fl_i z 259) 11 (Int32.ofNat 0))) := fl_df_wiu fl_df_rfl ⟨rfl, rfl⟩
  have v1 : fl_i (fl_wi z 259 (fl_up (fl_i z 259) 11 (Int32.ofNat 0))) 259 11 = Int32.ofNat 0 := by rw [fl_i_wi, if_pos rfl, fl_up_self]
  generalize q1 : fl_wi z 259 (fl_up (fl_i z 259) 11 (Int32.ofNat 0)) = h1 at *
  have g1 := fl_df_g gz d1
  have m1 : fl_mr h1 P.2 := fl_mr_df mr d1 (fun j => by omega)
  have e87 := fr_87 g1 (a := 4) (b := 0) (by omega) (by omega) (by omega)
  have d2 : fl_df (fun q j => q = 262 ∧ j < 126) h1 (fl_wi h1 262 (fl_cpw (fl_i h1 262) 4 0 126)) := fl_df_wi fl_df_rfl (fun j z => by
    unfold fl_cpw
    exact if_neg (by omega))
  have m2 : fl_mm (fl_wi h1 262 (fl_cpw (fl_i h1 262) 4 0 126)) P.2 := fun j hj => by
    rw [fl_i_wi, if_pos rfl]
    unfold fl_cpw
    rw [if_pos (by omega), show 4 * 126 + (j - 0 * 126) = 504 + j by omega]
    exact m1 j hj
  generalize fl_wi h1 262 (fl_cpw (fl_i h1 262) 4 0 126) = h2 at *
  have g2 := fl_df_g g1 d2
  have d3 : fl_df (fun q j => q = 263 ∧ j = 0) h2 (fl_wl h2 263 (fl_up (fl_l h2 263) 0 0)) := fl_df_wlu fl_df_rfl ⟨rfl, rfl⟩
  have v3 : fl_l (fl_wl h2 263 (fl_up (fl_l h2 263) 0 0)) 263 0 = 0 := by rw [fl_l_wl, if_pos rfl, fl_up_self]
  generalize q3 : fl_wl h2 263 (fl_up (fl_l h2 263) 0 0) = h3 at *
  have g3 := fl_df_g g2 d3
  have m3 : fl_mm h3 P.2 := fl_mm_df m2 d3 (fun j => by omega)
  have e88 := fr_88 g3 m3
  have dT : fl_df fl_Sm h h3 := fl_df_tr (fl_df_mo dy (fun q j z => by omega)) (fl_df_tr (fl_df_mo dz (fun q j z => Or.inl z)) (fl_df_tr (fl_df_mo d1 (fun q j z => by omega)) (fl_df_tr (fl_df_mo d2 (fun q j z => by omega)) (fl_df_mo d3 (fun q j z => by omega)))))
  refine ⟨h3, ?_, dT, ?_, ?_, m3, v3⟩
  · rw [ey, ez, na, v0]
    clear x ht dy dz hs G mr na nc d1 v1 m1 d2 m2 d3 v3 m3 dT ey ez
    rw [fbP_89_18]
    simp (disch := omega) only [fl_si_wi, fl_sl_wl, gz.1, g1.1, g2.1, g2.2, g3.1, fl_KM, fl_RM, fl_lit, fl_nadd, fl_nmul, fl_ndiv, fl_nsub, fl_msub, fl_nle, fl_nlt, fl_neq, fl_nclamp, fl_nin, fl_ltT, fl_ltF, fl_leT, fl_leF, fl_eqT, fl_eqF, decide_true, decide_false, Bool.true_and, Bool.and_true, Bool.false_and, Bool.and_false, if_true, if_false, Bool.false_eq_true, Option.isSome_some, Option.getD_some, not_true_eq_false, not_false_eq_true, Option.toList_some, Option.toList_none, List.cons_append, List.nil_append, q1, fbC_89_30, e87, fbP_89_39, q3, fbC_89_46, e88, fbP_89_50]
  · rw [(d3.2.2.2 259 4 (by omega)).1, (d2.2.2.2 259 4 (by omega)).1, (d1.2.2.2 259 4 (by omega)).1, (dz.2.2.2 259 4 (by omega)).1]; exact y4
  · rw [nc]
    exact ⟨by rw [(d3.2.2.2 259 11 (by omega)).1, (d2.2.2.2 259 11 (by omega)).1, v1]; rfl, fun j hj => absurd hj (Nat.not_lt_zero j)⟩
theorem fl_Srf_S0 {q j : Nat} (z : fl_Srf q j) : fl_S0 q j := by
  rcases z with z | z | z | z
  · exact fl_S0_e (by omega)
  · exact fl_S0_b (by omega)
  · exact fl_S0_k (by omega)
  · exact fl_S0_k (by omega)
theorem fl_Sm_S0 {q j : Nat} (z : fl_Sm q j) : fl_S0 q j := by
  rcases z with z | z | z | z
  · exact fl_Srf_S0 z
  · exact fl_S0_b (by omega)
  · exact fl_S0_e (by omega)
  · exact fl_S0_f z
theorem fl_Sn_S0 {q j : Nat} (z : fl_Sn q j) : fl_S0 q j := by
  rcases z with z | z
  · exact fl_S0_d (by omega)
  · exact fl_S0_g z
theorem fo_net (sk : fl_sk k0 i0) (hs : fl_st k0 i0 h) (I : fl_Inv k0 c h) : fl_both k0 c 71 89 [] [] h := by
  obtain ⟨tn, tx, iT⟩ := I.2.2.1
  obtain ⟨rn, rv, iO⟩ := I.2.2.2.1
  obtain ⟨cn, ck, cm, iC⟩ := I.2.2.2.2.1
  obtain ⟨g, g1, g2, b1, b2, s, s1, s2, iG⟩ := I.2.2.2.2.2
  have hg := I.1
  have nb := fl_nca_b (tx := tx) iT.1
  by_cases n : ∃ P, fl_good tx tn P
  · obtain ⟨P, G⟩ := n
    obtain ⟨H, a, dH, H2, zH, w, rH⟩ := fo_net_a sk hs hg iT iC.2.2.1 iC.2.2.2.2.1 G
    have gH := fl_df_g hg dH
    obtain ⟨Y, b, dY, Y4, zY, mY, l3⟩ := fo_net_b sk (fl_df_st dH hs (fun q j z => by omega)) gH (by rw [(dH.2.2.2 259 4 (by omega)).1]; exact iT.2.1) iT.1 (fun j hj => ⟨(iT.2.2.2.2 j hj).1, by rw [(dH.2.2.2 261 j (by omega)).1]; exact (iT.2.2.2.2 j hj).2.1⟩) G
    have dT : fl_df (fun q j => fl_Sn q j ∨ fl_Sm q j) h Y := fl_df_tr (fl_df_mo dH (fun q j z => Or.inl z)) (fl_df_mo dY (fun q j z => Or.inr z))
    have e21 : ∀ q, q ≤ 65 → fl_i Y q = fl_i H q ∧ fl_l Y q = fl_l H q := fun q z => ⟨fl_df_i dY (fun j => by omega), fl_df_l dY (fun j => by omega)⟩
    refine ⟨_, _, _, a, b, fl_Inv_df I (fl_df_mo dT (fun q j z => z.elim (fun z => fl_Sn_S0 z) (fun z => fl_Sm_S0 z))) ⟨0, tx, by omega, Y4, by rw [(dT.2.2.2 1 1 (by omega)).1]; exact iT.2.2.1, by rw [(e21 1 (by omega)).1]; exact H2, fun j hj => absurd hj (Nat.not_lt_zero j)⟩ ⟨rn, rv, fl_iO_fr iO (dT.2.2.2 259 1 (by omega)).1 (fl_df_l dT (fun j => by omega)) (fl_df_i dT (fun j => by omega)) (fl_df_l dT (fun j => by omega))⟩ ⟨(fl_nca (fl_read tx tn)).length, fun j => ((fl_nca (fl_read tx tn)).getD j (0, 0)).1, fun j => ((fl_nca (fl_read tx tn)).getD j (0, 0)).2, nb.1, zY.1, by rw [(e21 21 (by omega)).1]; exact zH.1, by rw [(e21 21 (by omega)).1]; exact zH.2.2.1, by rw [(e21 24 (by omega)).1]; exact zH.2.1, by rw [(e21 24 (by omega)).1]; exact zH.2.2.2.1, fun j hj => ⟨(nb.2 j hj).1, (nb.2 j hj).2, (zY.2 j hj).1, (zY.2 j hj).2, by rw [(e21 23 (by omega)).2]; exact (zH.2.2.2.2 j hj).1, by rw [(e21 26 (by omega)).2]; exact (zH.2.2.2.2 j hj).2⟩⟩ w mY l3 (fl_rn_fr rH (fun q z1 z2 => e21 q (by omega)))⟩
  · obtain ⟨H, a, dH, H2, zH⟩ := fo_net_a0 sk hs hg iT iC.2.2.1 iC.2.2.2.2.1 n
    have gH := fl_df_g hg dH
    obtain ⟨Y, b, dY, Y4, zY⟩ := fo_net_b0 sk (fl_df_st dH hs (fun q j z => by omega)) gH (by rw [(dH.2.2.2 259 4 (by omega)).1]; exact iT.2.1) iT.1 (fun j hj => ⟨(iT.2.2.2.2 j hj).1, by rw [(dH.2.2.2 261 j (by omega)).1]; exact (iT.2.2.2.2 j hj).2.1⟩) n
    have dT : fl_df (fun q j => ((7 ≤ q ∧ q ≤ 26) ∨ (q = 1 ∧ j = 2)) ∨ fl_Sm0 q j) h Y := fl_df_tr (fl_df_mo dH (fun q j z => Or.inl z)) (fl_df_mo dY (fun q j z => Or.inr z))
    have e21 : ∀ q, q ≤ 65 → fl_i Y q = fl_i H q ∧ fl_l Y q = fl_l H q := fun q z => ⟨fl_df_i dY (fun j => by omega), fl_df_l dY (fun j => by omega)⟩
    refine ⟨_, _, _, a, b, fl_Inv_df I (fl_df_mo dT (fun q j z => z.elim (fun z => fl_Sn_S0 (by omega)) (fun z => fl_Sm_S0 (z.elim Or.inl (fun y => Or.inr (Or.inl y)))))) ⟨0, tx, by omega, Y4, by rw [(dT.2.2.2 1 1 (by omega)).1]; exact iT.2.2.1, by rw [(e21 1 (by omega)).1]; exact H2, fun j hj => absurd hj (Nat.not_lt_zero j)⟩ ⟨rn, rv, fl_iO_fr iO (dT.2.2.2 259 1 (by omega)).1 (fl_df_l dT (fun j => by omega)) (fl_df_i dT (fun j => by omega)) (fl_df_l dT (fun j => by omega))⟩ ⟨(fl_nca (fl_read tx tn)).length, fun j => ((fl_nca (fl_read tx tn)).getD j (0, 0)).1, fun j => ((fl_nca (fl_read tx tn)).getD j (0, 0)).2, nb.1, zY.1, by rw [(e21 21 (by omega)).1]; exact zH.1, by rw [(e21 21 (by omega)).1]; exact zH.2.2.1, by rw [(e21 24 (by omega)).1]; exact zH.2.1, by rw [(e21 24 (by omega)).1]; exact zH.2.2.2.1, fun j hj => ⟨(nb.2 j hj).1, (nb.2 j hj).2, (zY.2 j hj).1, (zY.2 j hj).2, by rw [(e21 23 (by omega)).2]; exact (zH.2.2.2.2 j hj).1, by rw [(e21 26 (by omega)).2]; exact (zH.2.2.2.2 j hj).2⟩⟩ iG.1 (fun j hj => by rw [(dT.2.2.2 262 j (by omega)).1]; exact iG.2.1 j hj) (by rw [(dT.2.2.2 263 0 (by omega)).2]; exact iG.2.2.1) (fl_rn_fr iG.2.2.2.1 (fun q z1 z2 => ⟨fl_df_i dT (fun j => by omega), fl_df_l dT (fun j => by omega)⟩))⟩
end
