/-! would -/
section
variable {k0 : Nat → Nat × Nat} {i0 : Nat → Nat → Int32} {h h' : fl_H} {c : Nat × Nat × Nat × Bool}
theorem fo_would (sk : fl_sk k0 i0) (hs : fl_st k0 i0 h) (I : fl_Inv k0 c h) : fl_both k0 c 150 151 [] [] h := by
  obtain ⟨tn, tx, iT⟩ := I.2.2.1
  obtain ⟨rn, rv, iO⟩ := I.2.2.2.1
  obtain ⟨cn, ck, cm, iC⟩ := I.2.2.2.2.1
  obtain ⟨g, g1, g2, b1, b2, s, s1, s2, iG⟩ := I.2.2.2.2.2
  have hg := I.1
  have w := iG.1
  have w7 : g 77 ≤ 1 := w.1.2.2.2.2.2.2.2.2
  -- the class: a copy, and the ticks there
  have e149 := fc_149 (a := 144) (b := 27) w7 hg fl_o144 fl_o27 (by omega) iG.2.2.2.1.2.1.2
  have rg := fl_cpR_rg (h := h) (a := 144) (b := 27)
  have rc := fl_cpR_rn (a := 144) w iG.2.2.2.1 (by omega)
  have dc : fl_df (fl_SC 144) h (fl_cpR h 144 27) := fl_df_rg rg (fun q j y z => by omega)
  have gc := fl_df_g hg dc
  have Tc : fl_iT (fl_cpR h 144 27) tn tx := fl_iT_fr iT (by rw [(rg.2.2.2 259 (by omega)).1]) (rg.2.2.2 261 (by omega)).1 (rg.2.2.2 1 (by omega)).1 (rg.2.2.2 3 (by omega)).2
  obtain ⟨H, a, dH', t2, KH⟩ := fc_127x gc Tc fl_o144 (by omega) w rc (by rw [(dc.2.2.2 4 1 (by omega)).1]; exact iO.2.2.1)
  have dH : fl_df (fl_SC 144) h H := fl_df_tr dc dH'
  have l6c : fl_l (fl_cpR h 144 27) 6 = fl_l h 6 := (rg.2.2.2 6 (by omega)).2
  have i4c : fl_i (fl_cpR h 144 27) 4 = fl_i h 4 := (rg.2.2.2 4 (by omega)).1
  rw [l6c, i4c] at KH
  have a' : fl_cl fl_C 150 [.ref 0] h = some (some (some (.int (fl_apA g tx tn))), H) := by
    have o := (fl_o27 (k0 := k0)).1.1
    have o' := (fl_o144 (k0 := k0)).1.1
    clear iT iO iC iG w KH dH dH' dc Tc rc rg l6c i4c
    generalize fl_cpR h 144 27 = Hc at *
    rw [fbE_150]
    simp (disch := omega) only [hg.1, hg.2, fl_KF, fl_RF, o, o', fl_lit, fl_nadd, fl_nmul, fl_ndiv, fl_nsub, fl_msub, fl_nle, fl_nlt, fl_neq, fl_nclamp, fl_nin, fl_ltT, fl_ltF, fl_leT, fl_leF, fl_eqT, fl_eqF, decide_true, decide_false, Bool.true_and, Bool.and_true, Bool.false_and, Bool.and_false, if_true, if_false, Bool.false_eq_true, Option.isSome_some, Option.getD_some, not_true_eq_false, not_false_eq_true, Option.toList_some, Option.toList_none, List.cons_append, List.nil_append, e149, fbP_150_11, gc.1, gc.2, a, fbP_150_19]
  have gH := fl_df_g hg dH
  clear e149 rg rc dc gc Tc dH' l6c i4c a
  -- the reference: a copy, the ticks, and back
  have d2 : fl_df fl_S1 H (fl_wi H 259 (fl_up (fl_i H 259) 0 (Int32.ofNat 0))) := fl_up0_df (by omega)
  have g2' := fl_df_g gH d2
  have e87 := fr_87 g2' (a := 0) (b := 3) (by omega) (by omega) (by omega)
  have dW : fl_df (fun q j => q = 262 ∧ 378 ≤ j) (fl_wi H 259 (fl_up (fl_i H 259) 0 (Int32.ofNat 0))) (fl_wi (fl_wi H 259 (fl_up (fl_i H 259) 0 (Int32.ofNat 0))) 262 (fl_cpw (fl_i (fl_wi H 259 (fl_up (fl_i H 259) 0 (Int32.ofNat 0))) 262) 0 3 126)) := fl_df_wi fl_df_rfl (fun j z => fl_cpw_out (by omega))
  have mW : ∀ j, j < 126 → fl_i (fl_wi (fl_wi H 259 (fl_up (fl_i H 259) 0 (Int32.ofNat 0))) 262 (fl_cpw (fl_i (fl_wi H 259 (fl_up (fl_i H 259) 0 (Int32.ofNat 0))) 262) 0 3 126)) 262 j = Int32.ofNat (g j) ∧ fl_i (fl_wi (fl_wi H 259 (fl_up (fl_i H 259) 0 (Int32.ofNat 0))) 262 (fl_cpw (fl_i (fl_wi H 259 (fl_up (fl_i H 259) 0 (Int32.ofNat 0))) 262) 0 3 126)) 262 (3 * 126 + j) = Int32.ofNat (g j) := fun j hj => by
    have e : fl_i H 262 j = Int32.ofNat (g j) := by rw [(dH.2.2.2 262 j (by omega)).1]; exact iG.2.1 j hj
    refine ⟨?_, ?_⟩
    · rw [fl_i_wi, if_pos rfl, fl_cpw_out (by omega), fl_i_wi, if_neg (by omega)]; exact e
    · rw [fl_i_wi, if_pos rfl, fl_cpw_in hj, fl_i_wi, if_neg (by omega), Nat.zero_mul, Nat.zero_add]; exact e
  have gW := fl_df_g g2' dW
  have i259 : ∀ j, j ≠ 0 → fl_i (fl_wi (fl_wi H 259 (fl_up (fl_i H 259) 0 (Int32.ofNat 0))) 262 (fl_cpw (fl_i (fl_wi H 259 (fl_up (fl_i H 259) 0 (Int32.ofNat 0))) 262) 0 3 126)) 259 j = fl_i h 259 j := fun j hj => by
    rw [fl_i_wi, if_neg (by omega), fl_i_wi, if_pos rfl, fl_up_ne hj]; exact (dH.2.2.2 259 j (by omega)).1
  have e151 : ∀ {Y V : fl_H} {x : Int32}, fl_g k0 Y → fl_cl fl_C 145 [.ref 259] (fl_wi (fl_wi H 259 (fl_up (fl_i H 259) 0 (Int32.ofNat 0))) 262 (fl_cpw (fl_i (fl_wi H 259 (fl_up (fl_i H 259) 0 (Int32.ofNat 0))) 262) 0 3 126)) = some (some (some (.int x)), Y) → fl_cl fl_C 87 [.ref 259, .int (Int32.ofNat 3), .int (Int32.ofNat 0), .int (Int32.ofNat 0), .int (Int32.ofNat 126)] Y = some (some none, V) → fl_cl fl_C 151 [.ref 259] H = some (some (some (.int x)), V) := fun {Y V x} gY b e => by
    have ew : fl_si H 259 0 (Int32.ofNat 0) = fl_wi H 259 (fl_up (fl_i H 259) 0 (Int32.ofNat 0)) := fl_si_wi
    clear iT iO iC iG w KH dH dW d2 i259 a' mW
    generalize fl_wi (fl_wi H 259 (fl_up (fl_i H 259) 0 (Int32.ofNat 0))) 262 (fl_cpw (fl_i (fl_wi H 259 (fl_up (fl_i H 259) 0 (Int32.ofNat 0))) 262) 0 3 126) = W at *
    generalize fl_wi H 259 (fl_up (fl_i H 259) 0 (Int32.ofNat 0)) = H2 at *
    rw [fbE_151]
    simp (disch := omega) only [gH.1, gH.2, fl_KM, fl_RM, fl_lit, fl_nadd, fl_nmul, fl_ndiv, fl_nsub, fl_msub, fl_nle, fl_nlt, fl_neq, fl_nclamp, fl_nin, fl_ltT, fl_ltF, fl_leT, fl_leF, fl_eqT, fl_eqF, decide_true, decide_false, Bool.true_and, Bool.and_true, Bool.false_and, Bool.and_false, if_true, if_false, Bool.false_eq_true, Option.isSome_some, Option.getD_some, not_true_eq_false, not_false_eq_true, Option.toList_some, Option.toList_none, List.cons_append, List.nil_append, ew, fbC_151_5, g2'.1, e87, fbP_151_14, gW.1, b, fbP_151_18, gY.1, e, fbP_151_28]
  have dHW : fl_df (fun q j => fl_SC 144 q j ∨ fl_S1 q j ∨ (q = 262 ∧ 378 ≤ j)) h (fl_wi (fl_wi H 259 (fl_up (fl_i H 259) 0 (Int32.ofNat 0))) 262 (fl_cpw (fl_i (fl_wi H 259 (fl_up (fl_i H 259) 0 (Int32.ofNat 0))) 262) 0 3 126)) := fl_df_tr (fl_df_mo dH (fun q j z => Or.inl z)) (fl_df_tr (fl_df_mo d2 (fun q j z => Or.inr (Or.inl z))) (fl_df_mo dW (fun q j z => Or.inr (Or.inr z))))
  have dHW2 : fl_df (fun q j => fl_S1 q j ∨ (q = 262 ∧ 378 ≤ j)) H (fl_wi (fl_wi H 259 (fl_up (fl_i H 259) 0 (Int32.ofNat 0))) 262 (fl_cpw (fl_i (fl_wi H 259 (fl_up (fl_i H 259) 0 (Int32.ofNat 0))) 262) 0 3 126)) := fl_df_tr (fl_df_mo d2 (fun q j z => Or.inl z)) (fl_df_mo dW (fun q j z => Or.inr z))
  have l260 : fl_l (fl_wi (fl_wi H 259 (fl_up (fl_i H 259) 0 (Int32.ofNat 0))) 262 (fl_cpw (fl_i (fl_wi H 259 (fl_up (fl_i H 259) 0 (Int32.ofNat 0))) 262) 0 3 126)) 260 = fl_l H 260 := by rw [fl_l_wi, fl_l_wi]
  generalize fl_wi (fl_wi H 259 (fl_up (fl_i H 259) 0 (Int32.ofNat 0))) 262 (fl_cpw (fl_i (fl_wi H 259 (fl_up (fl_i H 259) 0 (Int32.ofNat 0))) 262) 0 3 126) = W at *
  obtain ⟨Y, b, dY, Y4, KY⟩ := fr_145 (tx := tx) (tn := tn) sk gW (fl_df_st dHW hs (fun q j z => by omega)) (g := g) (fun j hj => (mW j hj).1) w iT.1 (by rw [i259 4 (by omega)]; exact iT.2.1) (fun j hj => ⟨(iT.2.2.2.2 j hj).1, by rw [(dHW.2.2.2 261 j (by omega)).1]; exact (iT.2.2.2.2 j hj).2.1⟩)
  have gY := fl_df_g gW dY
  have e87b := fr_87 gY (a := 3) (b := 0) (by omega) (by omega) (by omega)
  have b' := e151 gY b e87b
  clear e151 e87 e87b b dW d2 g2'
  have dV : fl_df (fun q j => q = 262 ∧ j < 126) Y (fl_wi Y 262 (fl_cpw (fl_i Y 262) 3 0 126)) := fl_df_wi fl_df_rfl (fun j z => fl_cpw_out (by omega))
  have mV : fl_mm (fl_wi Y 262 (fl_cpw (fl_i Y 262) 3 0 126)) g := fun j hj => by
    have := fl_cpw_in (old := fl_i Y 262) (a := 3) (b := 0) hj
    rw [Nat.zero_mul, Nat.zero_add] at this
    rw [fl_i_wi, if_pos rfl, this, (dY.2.2.2 262 _ (by omega)).1]
    exact (mW j hj).2
  have V259 : fl_i (fl_wi Y 262 (fl_cpw (fl_i Y 262) 3 0 126)) 259 = fl_i Y 259 := by rw [fl_i_wi, if_neg (by omega)]
  have Vl : fl_l (fl_wi Y 262 (fl_cpw (fl_i Y 262) 3 0 126)) = fl_l Y := by rw [fl_l_wi]
  generalize fl_wi Y 262 (fl_cpw (fl_i Y 262) 3 0 126) = V at *
  have dHV : fl_df (fun q j => fl_S1 q j ∨ (q = 262 ∧ 378 ≤ j)) H V := fl_df_tr (fl_df_tr dHW2 (fl_df_mo dY (fun q j z => Or.inl z))) (fl_df_mo dV (fun q j z => Or.inl (Or.inr (Or.inr (Or.inl z)))))
  have dT : fl_df (fun q j => fl_SC 144 q j ∨ fl_S1 q j ∨ (q = 262 ∧ 378 ≤ j)) h V := fl_df_tr (fl_df_mo dH (fun q j z => Or.inl z)) (fl_df_mo dHV (fun q j z => Or.inr z))
  have d0 : fl_df fl_S0 h V := fl_df_mo dT (fun q j z => z.elim (fun z => fl_SC_S0 (Or.inr rfl) z) (fun z => z.elim (fun z => fl_S1_S0 z) (fun z => fl_S0_e (by omega))))
  have yT : ∃ n tx, fl_iT V n tx := ⟨0, tx, by omega, by rw [V259]; exact Y4, by rw [(dT.2.2.2 1 1 (by omega)).1]; exact iT.2.2.1, by rw [(dHV.2.2.2 1 2 (by omega)).1]; exact t2, fun j hj => absurd hj (by omega)⟩
  have yC : ∃ n ck cm, fl_iC V n ck cm := ⟨cn, ck, cm, fl_iC_fr iC (dT.2.2.2 259 11 (by omega)).1 (fl_df_i dT (fun j => by omega)) (fl_df_i dT (fun j => by omega)) (fl_df_i dT (fun j => by omega)) (fl_df_i dT (fun j => by omega)) (fl_df_l dT (fun j => by omega)) (fl_df_l dT (fun j => by omega))⟩
  have yR : fl_rn V 27 g s := fl_rn_fr iG.2.2.2.1 (fun q z1 z2 => ⟨fl_df_i dT (fun j => by omega), fl_df_l dT (fun j => by omega)⟩)
  have y3 : fl_l V 263 0 = s := by rw [(dT.2.2.2 263 0 (by omega)).2]; exact iG.2.2.1
  refine ⟨_, _, _, a', b', ?_⟩
  by_cases K : fl_apK g tx tn
  · rw [if_pos K] at KH KY
    exact fl_Inv_df I d0 yT ⟨1, fun _ => (fl_dt (fl_gT tx g (tn / g 1)) &&& (fl_dt g ^^^ (-1))), by omega, by rw [V259]; exact KY.2.1, by rw [(dT.2.2.2 4 1 (by omega)).1]; exact iO.2.2.1, by rw [(dHV.2.2.2 4 2 (by omega)).1]; exact KH.2.1, fun j hj => by
      have e : j = 0 := by omega
      subst e
      exact ⟨by rw [Vl]; exact KY.2.2, by rw [(dHV.2.2.2 6 0 (by omega)).2]; exact KH.2.2⟩⟩ yC w mV y3 yR
  · rw [if_neg K] at KH KY
    exact fl_Inv_df I d0 yT ⟨rn, rv, fl_iO_fr iO (by rw [V259, KY.2.1]; exact i259 1 (by omega)) (by rw [Vl, KY.2.2, l260]; exact fl_df_l dH (fun j => by omega)) ((fl_df_i dHV (fun j => by omega)).trans KH.2.1) ((fl_df_l dHV (fun j => by omega)).trans KH.2.2)⟩ yC w mV y3 yR
end
