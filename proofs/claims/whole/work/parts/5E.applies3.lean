/-! applies, would: both alike -/
section
variable {k0 : Nat → Nat × Nat} {i0 : Nat → Nat → Int32} {h h' : fl_H} {tx g : Nat → Nat} {tn : Nat} {c : Nat × Nat × Nat × Bool}
theorem fr_dt {y : fl_H} (gy : fl_g k0 y) (my : fl_mm y g) (w : fl_wf g) (ay : fl_all2 h y g) : fl_cl fl_C 142 [.ref 259] y = some (some (some (.long (fl_dt g))), y) := by
  have w7 : g 76 ≤ 24 := w.1.2.2.2.2.2.2.2.1
  have w0 : g 0 ≤ 12 := w.1.2.2.2.1
  have w2 : g 2 ≤ 20 := w.1.2.2.2.2.1
  have e := fr_142 gy my w (q := fun f => fl_any (fl_shn g f (fl_ps g)) (g 76)) (t := fun f => fl_frst (fl_shn g f (fl_ps g)) (g 76)) (fun f => by have := fl_frst_le (q := fl_shn g f (fl_ps g)) (g 76); omega) (fun f hf => (ay.2.2.2.2 f hf).1)
  rw [fl_bs_F (by omega)] at e
  exact e
theorem fl_ae_df {n : Nat} {x : Int64} {S : Nat → Nat → Prop} (a : fl_df S h h') (z1 : S 259 1) (z2 : S 260 n) : fl_df S h (fl_ae h' n x) := by
  unfold fl_ae
  exact fl_df_wi (fl_df_wlu a z2) (fun j y => by rw [fl_i_wl]; exact fl_up_ne (fun e => y (by rw [e]; exact z1)))
theorem fl_a0_df {S : Nat → Nat → Prop} (a : fl_df S h h') (z1 : S 259 1) : fl_df S h (fl_a0 h') := fl_df_wiu a z1
theorem fr_145 (sk : fl_sk k0 i0) (hg : fl_g k0 h) (hs : fl_st k0 i0 h) (m : fl_mm h g) (w : fl_wf g) (n80 : tn ≤ 80) (e4 : fl_i h 259 4 = Int32.ofNat tn) (tp : ∀ j, j < tn → tx j < 256 ∧ fl_i h 261 j = Int32.ofNat (tx j)) : ∃ y, fl_cl fl_C 145 [.ref 259] h = some (some (some (.int (fl_apA g tx tn))), y) ∧ fl_df fl_S1 h y ∧ fl_i y 259 4 = Int32.ofNat 0 ∧ (if fl_apK g tx tn then fl_mm y (fl_gT tx g (tn / g 1)) ∧ fl_i y 259 1 = Int32.ofNat 1 ∧ fl_l y 260 0 = (fl_dt (fl_gT tx g (tn / g 1)) &&& (fl_dt g ^^^ (-1))) else fl_mm y g ∧ fl_i y 259 1 = fl_i h 259 1 ∧ fl_l y 260 = fl_l h 260) := by
  have w4 : g 1 ≤ 4 := w.1.2.1
  have w5 : 1 ≤ g 1 := w.1.1
  have w7 : g 76 ≤ 24 := w.1.2.2.2.2.2.2.2.1
  have a : fl_df fl_S1 h (fl_rd h tn) := fl_rd_df
  have G := fl_df_g hg a
  have mH : fl_mm (fl_rd h tn) g := fun j hj => by rw [fl_rd_q (by omega)]; exact m j hj
  have sH : fl_st k0 i0 (fl_rd h tn) := fl_df_st a hs (fun q j z => by omega)
  have tpH : ∀ j, j < tn → tx j < 256 ∧ fl_i (fl_rd h tn) 261 j = Int32.ofNat (tx j) := fun j hj => by rw [fl_rd_q (by omega)]; exact tp j hj
  have e72 := fr_72 hg e4
  have sc := fr_145a sk G sH n80 fl_rd_6 tpH
  have H4 : fl_i (fl_rd h tn) 259 4 = Int32.ofNat 0 := fl_rd_4
  have H6 : fl_i (fl_rd h tn) 259 6 = Int32.ofNat tn := fl_rd_6
  have H1 : fl_i (fl_rd h tn) 259 1 = fl_i h 259 1 := fl_rd_o (by omega)
  have HL : fl_l (fl_rd h tn) = fl_l h := fl_rd_l
  have st : fl_cl fl_C 145 [.ref 259] h = fl_Rn fl_C 145 6 [some (.ref 259), some (.int (Int32.ofNat 0))] [] (fl_rd h tn) := by
    clear sc tpH mH sH tp m w sk hs
    rw [fbE_145]
    simp (disch := omega) only [hg.1, fl_KM, fl_RM, fl_lit, fl_nadd, fl_nmul, fl_ndiv, fl_nsub, fl_msub, fl_nle, fl_nlt, fl_neq, fl_nclamp, fl_nin, fl_ltT, fl_ltF, fl_leT, fl_leF, fl_eqT, fl_eqF, decide_true, decide_false, Bool.true_and, Bool.and_true, Bool.false_and, Bool.and_false, if_true, if_false, Bool.false_eq_true, Option.isSome_some, Option.getD_some, not_true_eq_false, not_false_eq_true, Option.toList_some, Option.toList_none, List.cons_append, List.nil_append, e72, fbP_145_4]
  rw [st]
  clear st e72 tp
  generalize fl_rd h tn = H at *
  have e129 := fr_129h G
  rw [mH 1 (by omega)] at e129
  have e130 := fr_130h G
  rw [mH 76 (by omega)] at e130
  have dl := fl_dle tn (g 1)
  have dv0 := Nat.div_le_self tn (g 1)
  unfold fl_apA
  by_cases b : fl_any (fl_bad tx 80) tn = true
  · rw [if_pos b] at sc ⊢
    exact ⟨H, sc, a, H4, by rw [if_neg (fun z => by rw [z.1] at b; cases b)]; exact ⟨mH, H1, by rw [HL]⟩⟩
  · rw [if_neg b] at sc ⊢
    have b' : fl_any (fl_bad tx 80) tn = false := by cases e : fl_any (fl_bad tx 80) tn; rfl; exact absurd e b
    have mr := Nat.mod_lt tn w5
    rw [sc]
    clear sc
    by_cases md : tn % g 1 = 0
    · rw [if_pos md]
      have dv : tn / g 1 * g 1 = tn := by have := fl_msub tn (g 1); omega
      have h6 : fl_Rn fl_C 145 6 [some (.ref 259), some (.int (Int32.ofNat tn))] [] H = if g 76 + tn / g 1 ≤ 24 then fl_ca fl_C 145 86 [some (.ref 259), some (.int (Int32.ofNat (tn / g 1)))] [] [] (fl_cl fl_C 141 [.ref 259] H) else some (some (some (.int (-Int32.ofNat 200))), H) := by
        clear m mH tpH sH sk hs a hg w b b' dv
        rw [fbC_145_6]
        by_cases l24 : g 76 + tn / g 1 ≤ 24
        · rw [if_pos l24]
          simp (disch := omega) only [G.1, G.2, fl_KM, fl_RM, fl_lit, fl_nadd, fl_nmul, fl_ndiv, fl_nsub, fl_msub, fl_nle, fl_nlt, fl_neq, fl_nclamp, fl_nin, fl_ltT, fl_ltF, fl_leT, fl_leF, fl_eqT, fl_eqF, decide_true, decide_false, Bool.true_and, Bool.and_true, Bool.false_and, Bool.and_false, if_true, if_false, Bool.false_eq_true, Option.isSome_some, Option.getD_some, not_true_eq_false, not_false_eq_true, Option.toList_some, Option.toList_none, List.cons_append, List.nil_append, H6, e129, fbP_145_46, fl_nmod, md, fbP_145_65, e130, fbP_145_71]
        · rw [if_neg l24]
          simp (disch := omega) only [G.1, G.2, fl_KM, fl_RM, fl_lit, fl_nadd, fl_nmul, fl_ndiv, fl_nsub, fl_msub, fl_nle, fl_nlt, fl_neq, fl_nclamp, fl_nin, fl_ltT, fl_ltF, fl_leT, fl_leF, fl_eqT, fl_eqF, decide_true, decide_false, Bool.true_and, Bool.and_true, Bool.false_and, Bool.and_false, if_true, if_false, Bool.false_eq_true, Option.isSome_some, Option.getD_some, not_true_eq_false, not_false_eq_true, Option.toList_some, Option.toList_none, List.cons_append, List.nil_append, H6, e129, fbP_145_46, fl_nmod, md, fbP_145_65, e130, fbP_145_71]
      by_cases l24 : g 76 + tn / g 1 ≤ 24
      · rw [if_pos l24] at h6 ⊢
        have K : fl_apK g tx tn := ⟨b', md, l24⟩
        rw [h6]
        clear h6 e129 e130
        have ok : ∀ p, p < tn → fl_sok (tx p) = true := fun p hp => fl_bad_ok b' hp
        obtain ⟨r, y, e141, rfl, ay⟩ := fr_141 G mH w
        have qy := fl_qt_all ay
        have gy := fl_qo_g G (fl_qt_qo qy)
        have my := fl_qo_mm mH (fl_qt_qo qy)
        have e142 := fr_dt gy my w ay
        have ady : fl_df fl_S1 H y := fl_df_qt qy (fun q j z => fl_scr_S1 z)
        have sy : fl_st k0 i0 y := fl_df_st ady sH (fun q j z => by omega)
        have y261 : fl_i y 261 = fl_i H 261 := fl_df_i ady (fun j => by omega)
        have lp := fl_iter (fun k => fl_Rn fl_C 145 94 [some (.ref 259), some (.int (Int32.ofNat (tn / g 1))), some (.long (fl_dt g)), none, some (.int (Int32.ofNat k))] [] (fl_wi y 262 (fl_mT tx g (fl_i y 262) k))) (tn / g 1) (fun k hk => fr_145s sk gy sy my w n80 (fun j hj => by rw [y261]; exact tpH j hj) ok (by omega) hk (by
          have := Nat.mul_le_mul_right (g 1) (show k + 1 ≤ tn / g 1 by omega)
          rw [dv, Nat.add_mul, Nat.one_mul] at this
          exact this) (by omega) (fl_dt g))
        try dsimp only at lp
        rw [show fl_mT tx g (fl_i y 262) 0 = fl_i y 262 from rfl, fl_wi_self rfl] at lp
        have GZ : fl_g k0 (fl_wi y 262 (fl_mT tx g (fl_i y 262) (tn / g 1))) := ⟨by rw [fl_k_wi]; exact gy.1, by rw [fl_r_wi]; exact gy.2⟩
        have mZ : fl_mm (fl_wi y 262 (fl_mT tx g (fl_i y 262) (tn / g 1))) (fl_gT tx g (tn / g 1)) := fun j hj => by
          rw [fl_i_wi, if_pos rfl]; exact fl_mT_mm my _ l24 j hj
        have dZ : fl_df fl_S1 y (fl_wi y 262 (fl_mT tx g (fl_i y 262) (tn / g 1))) := fl_df_wi fl_df_rfl (fun j z => fl_mT_ge (by omega) _ l24)
        have y4 : fl_i (fl_wi y 262 (fl_mT tx g (fl_i y 262) (tn / g 1))) 259 4 = Int32.ofNat 0 := by
          rw [fl_i_wi, if_neg (by omega), ay.2.1 4 (by omega)]; exact H4
        have wZ := fl_gT_wf (tx := tx) w (tn / g 1) l24
        obtain ⟨r, z, e141z, rfl, az⟩ := fr_141 GZ mZ wZ
        have qz := fl_qt_all az
        have gz := fl_qo_g GZ (fl_qt_qo qz)
        have mz := fl_qo_mm mZ (fl_qt_qo qz)
        have e142z := fr_dt gz mz wZ az
        have adz : fl_df fl_S1 _ z := fl_df_qt qz (fun q j z => fl_scr_S1 z)
        have z4 : fl_i z 259 4 = Int32.ofNat 0 := by rw [az.2.1 4 (by omega)]; exact y4
        clear mZ wZ az qz y4 my ay qy y261 sy tpH mH sH m sk hs w H1 HL H6 H4
        have h86 : fl_ca fl_C 145 86 [some (.ref 259), some (.int (Int32.ofNat (tn / g 1)))] [] [] (fl_cl fl_C 141 [.ref 259] H) = fl_Rn fl_C 145 94 [some (.ref 259), some (.int (Int32.ofNat (tn / g 1))), some (.long (fl_dt g)), none, some (.int (Int32.ofNat 0))] [] y := by
          clear lp adz dZ ady e141z e142z mz ok
          simp (disch := omega) only [e141, fbP_145_86, gy.1, fl_KM, fl_RM, fl_lit, fl_nadd, fl_nmul, fl_ndiv, fl_nsub, fl_msub, fl_nle, fl_nlt, fl_neq, fl_nclamp, fl_nin, fl_ltT, fl_ltF, fl_leT, fl_leF, fl_eqT, fl_eqF, decide_true, decide_false, Bool.true_and, Bool.and_true, Bool.false_and, Bool.and_false, if_true, if_false, Bool.false_eq_true, Option.isSome_some, Option.getD_some, not_true_eq_false, not_false_eq_true, Option.toList_some, Option.toList_none, List.cons_append, List.nil_append, e142, fbP_145_90]
        rw [h86, lp]
        clear h86 lp
        generalize fl_wi y 262 (fl_mT tx g (fl_i y 262) (tn / g 1)) = Z at *
        generalize fl_dt (fl_gT tx g (tn / g 1)) = A at *
        generalize fl_dt g = B at *
        have gz0 : fl_g k0 (fl_a0 z) := fl_qo_g gz fl_a0_qo
        have t0 : fl_cl fl_C 143 [.ref 259, .long (A &&& (B ^^^ (-1)))] (fl_a0 z) = some (some none, fl_ae (fl_a0 z) 0 (A &&& (B ^^^ (-1)))) := fr_143 gz0 (by omega) fl_a0_n _
        have bt := fr_144 (h := fl_ae (fl_a0 z) 0 (A &&& (B ^^^ (-1)))) (A &&& (B ^^^ (-1)))
        have ea : fl_wi z 259 (fl_up (fl_i z 259) 1 (Int32.ofNat 0)) = fl_a0 z := rfl
        refine ⟨fl_ae (fl_a0 z) 0 (A &&& (B ^^^ (-1))), ?_, ?_, ?_, ?_⟩
        · clear a ady dZ adz mz z4 ok
          generalize fl_ae (fl_a0 z) 0 (A &&& (B ^^^ (-1))) = Y at *
          rw [fbC_145_94]
          simp (disch := omega) only [fl_k_wl, fl_r_wl, fl_i_wl, fl_l_wl, fl_1_wl, fl_k_wi, fl_r_wi, fl_l_wi, fl_1_wi, fl_i_wi, fl_k_si, fl_r_si, fl_l_si, fl_k_sl, fl_r_sl, fl_i_sl, fl_up_self, fl_up_ne, fl_si_wi, fl_sl_wl, fl_wi_wi, fl_wl_wl, GZ.1, gz.1, gz0.1, gz0.2, fl_KM, fl_RM, fl_lit, fl_nadd, fl_nmul, fl_ndiv, fl_nsub, fl_msub, fl_nle, fl_nlt, fl_neq, fl_nclamp, fl_nin, fl_ltT, fl_ltF, fl_leT, fl_leF, fl_eqT, fl_eqF, decide_true, decide_false, Bool.true_and, Bool.and_true, Bool.false_and, Bool.and_false, if_true, if_false, Bool.false_eq_true, Option.isSome_some, Option.getD_some, not_true_eq_false, not_false_eq_true, Option.toList_some, Option.toList_none, List.cons_append, List.nil_append, e141z, fbP_145_205, e142z, fbP_145_209, ea, fbC_145_222, t0, fbP_145_228, bt, fbP_145_233]
        · exact fl_ae_df (fl_a0_df (fl_df_tr a (fl_df_tr ady (fl_df_tr dZ adz))) (by omega)) (by omega) (by omega)
        · unfold fl_ae; rw [fl_i_wi, if_pos rfl, fl_up_ne (by omega)]; unfold fl_a0; rw [fl_i_wi, if_pos rfl, fl_up_ne (by omega)]; exact z4
        · rw [if_pos K]
          refine ⟨fun j hj => ?_, fl_ae_n, by rw [fl_ae_l, fl_up_self]⟩
          unfold fl_ae; rw [fl_i_wi, if_neg (by omega), fl_i_wl]; unfold fl_a0; rw [fl_i_wi, if_neg (by omega)]; exact mz j hj
      · rw [if_neg l24] at h6 ⊢
        exact ⟨H, h6, a, H4, by rw [if_neg (fun z => l24 z.2.2)]; exact ⟨mH, H1, by rw [HL]⟩⟩
    · rw [if_neg md]
      refine ⟨H, ?_, a, H4, by rw [if_neg (fun z => md z.2.1)]; exact ⟨mH, H1, by rw [HL]⟩⟩
      clear m mH tpH sH sk hs a hg w b b'
      rw [fbC_145_6]
      simp (disch := omega) only [G.1, G.2, fl_KM, fl_RM, fl_lit, fl_nadd, fl_nmul, fl_ndiv, fl_nsub, fl_msub, fl_nle, fl_nlt, fl_neq, fl_nclamp, fl_nin, fl_ltT, fl_ltF, fl_leT, fl_leF, fl_eqT, fl_eqF, decide_true, decide_false, Bool.true_and, Bool.and_true, Bool.false_and, Bool.and_false, if_true, if_false, Bool.false_eq_true, Option.isSome_some, Option.getD_some, not_true_eq_false, not_false_eq_true, Option.toList_some, Option.toList_none, List.cons_append, List.nil_append, H6, e129, fbP_145_46, fl_nmod]
end
section
variable {k0 : Nat → Nat × Nat} {i0 : Nat → Nat → Int32} {h h' : fl_H} {c : Nat × Nat × Nat × Bool}
abbrev fl_SC (r q j : Nat) : Prop := (r ≤ q ∧ q ≤ r + 38) ∨ (q = 1 ∧ j = 2) ∨ (q = 4 ∧ j = 2) ∨ q = 6
theorem fl_SC_S0 {r q j : Nat} (hr : r = 27 ∨ r = 144) (z : fl_SC r q j) : fl_S0 q j := by
  rcases z with z | z | z | z
  · rcases hr with e | e
    · exact fl_S0_d (by omega)
    · exact fl_S0_c (by omega)
  · exact fl_S0_g z
  · exact fl_S0_i z
  · exact fl_S0_d (by omega)
theorem fc_127x {g tx : Nat → Nat} {tn r : Nat} {s : Int64} (hg : fl_g k0 h) (iT : fl_iT h tn tx) (rr : fl_isR k0 r) (hr : 27 ≤ r ∧ r + 38 < 259) (w : fl_wf g) (d : fl_rn h r g s) (e1 : fl_i h 4 1 = Int32.ofNat 6) : ∃ H, fl_cl fl_C 127 [.ref 0, .ref r] h = some (some (some (.int (fl_apA g tx tn))), H) ∧ fl_df (fl_SC r) h H ∧ fl_i H 1 2 = Int32.ofNat 0 ∧ (if fl_apK g tx tn then fl_rn H r (fl_gT tx g (tn / g 1)) s ∧ fl_i H 4 2 = Int32.ofNat 1 ∧ fl_l H 6 0 = (fl_dt (fl_gT tx g (tn / g 1)) &&& (fl_dt g ^^^ (-1))) else fl_rn H r g s ∧ fl_i H 4 = fl_i h 4 ∧ fl_l H 6 = fl_l h 6) := by
  have a := fc_127 hg iT rr hr w d e1
  refine ⟨_, a, ?_⟩
  by_cases K : fl_apK g tx tn
  · rw [if_pos K, if_pos K]
    have rg := fl_hT_rg (h := h) (tx := tx) (g := g) (r := r) (tn / g 1)
    have rn := fl_hT_rn (tx := tx) w d (tn / g 1) K.2.2
    generalize fl_hT tx g r h (tn / g 1) = H0 at *
    generalize (fl_dt (fl_gT tx g (tn / g 1)) &&& (fl_dt g ^^^ (-1))) = X at *
    have q : fl_qo H0 (fl_tc6 H0 0 X) := fl_tc6_qo
    have i1 : ∀ q, q ≠ 1 → fl_i (fl_z1 (fl_tc6 H0 0 X) (Int32.ofNat 0)) q = fl_i (fl_tc6 H0 0 X) q := fun q hq => by unfold fl_z1; rw [fl_i_wi, if_neg hq]
    have l1 : fl_l (fl_z1 (fl_tc6 H0 0 X) (Int32.ofNat 0)) = fl_l (fl_tc6 H0 0 X) := by unfold fl_z1; rw [fl_l_wi]
    refine ⟨?_, ?_, ?_, ?_, ?_⟩
    · unfold fl_z1
      refine fl_df_wiu (fl_df_tr (fl_df_rg rg (fun q j y z => by omega)) ?_) (by omega)
      unfold fl_tc6
      exact fl_df_wi (fl_df_wl fl_df_rfl (fun j y => by omega)) (fun j y => by rw [fl_i_wl]; exact fl_up_ne (by omega))
    · unfold fl_z1; rw [fl_i_wi, if_pos rfl, fl_up_self]
    · refine fl_rn_fr rn (fun p y z => ⟨?_, ?_⟩)
      · rw [i1 p (by omega)]; unfold fl_tc6; rw [fl_i_wi, if_neg (by omega), fl_i_wl]
      · rw [l1]; unfold fl_tc6; rw [fl_l_wi, fl_l_wl, if_neg (by omega)]
    · rw [i1 4 (by omega)]; exact fl_tc6_n
    · rw [l1, fl_tc6_l, fl_up_self]
  · rw [if_neg K, if_neg K]
    refine ⟨?_, ?_, ?_, ?_, ?_⟩
    · unfold fl_z1
      exact fl_df_wiu fl_df_rfl (by omega)
    · unfold fl_z1; rw [fl_i_wi, if_pos rfl, fl_up_self]
    · refine fl_rn_fr d (fun p y z => ⟨?_, ?_⟩)
      · unfold fl_z1; rw [fl_i_wi, if_neg (by omega)]
      · unfold fl_z1; rw [fl_l_wi]
    · unfold fl_z1; rw [fl_i_wi, if_neg (by omega)]
    · unfold fl_z1; rw [fl_l_wi]
theorem fl_up0_df {S : Nat → Nat → Prop} {x : Int32} (z : S 259 0) : fl_df S h (fl_wi h 259 (fl_up (fl_i h 259) 0 x)) := fl_df_wiu fl_df_rfl z
theorem fo_applies (sk : fl_sk k0 i0) (hs : fl_st k0 i0 h) (I : fl_Inv k0 c h) : fl_both k0 c 128 146 [] [] h := by
  obtain ⟨tn, tx, iT⟩ := I.2.2.1
  obtain ⟨rn, rv, iO⟩ := I.2.2.2.1
  obtain ⟨cn, ck, cm, iC⟩ := I.2.2.2.2.1
  obtain ⟨g, g1, g2, b1, b2, s, s1, s2, iG⟩ := I.2.2.2.2.2
  have hg := I.1
  have w := iG.1
  obtain ⟨H, a, dH, t2, KH⟩ := fc_127x hg iT fl_o27 (by omega) w iG.2.2.2.1 iO.2.2.1
  have gH := fl_df_g hg dH
  have d2 : fl_df fl_S1 H (fl_wi H 259 (fl_up (fl_i H 259) 0 (Int32.ofNat 0))) := fl_up0_df (by omega)
  have g2' := fl_df_g gH d2
  have d02 : fl_df fl_S0 h (fl_wi H 259 (fl_up (fl_i H 259) 0 (Int32.ofNat 0))) := fl_df_tr (fl_df_mo dH (fun q j z => fl_SC_S0 (Or.inl rfl) z)) (fl_df_mo d2 (fun q j z => fl_S1_S0 z))
  have i259 : ∀ j, j ≠ 0 → fl_i (fl_wi H 259 (fl_up (fl_i H 259) 0 (Int32.ofNat 0))) 259 j = fl_i h 259 j := fun j hj => by
    rw [fl_i_wi, if_pos rfl, fl_up_ne hj]; exact (dH.2.2.2 259 j (by omega)).1
  obtain ⟨Y, b, dY, Y4, KY⟩ := fr_145 (tx := tx) (tn := tn) sk g2' (fl_df_st d02 hs (fun q j z => by omega)) (g := g) (fun j hj => by rw [fl_i_wi, if_neg (by omega), (dH.2.2.2 262 j (by omega)).1]; exact iG.2.1 j hj) w iT.1 (by rw [i259 4 (by omega)]; exact iT.2.1) (fun j hj => ⟨(iT.2.2.2.2 j hj).1, by rw [fl_i_wi, if_neg (by omega), (dH.2.2.2 261 j (by omega)).1]; exact (iT.2.2.2.2 j hj).2.1⟩)
  have a' : fl_cl fl_C 128 [.ref 0] h = some (some (some (.int (fl_apA g tx tn))), H) := by
    have o := (fl_o27 (k0 := k0)).1.1
    clear iT iO iC iG w KH KY dH dY d2 d02 i259 b
    rw [fbE_128]
    simp (disch := omega) only [hg.1, hg.2, fl_KF, fl_RF, o, fl_lit, fl_nadd, fl_nmul, fl_ndiv, fl_nsub, fl_msub, fl_nle, fl_nlt, fl_neq, fl_nclamp, fl_nin, fl_ltT, fl_ltF, fl_leT, fl_leF, fl_eqT, fl_eqF, decide_true, decide_false, Bool.true_and, Bool.and_true, Bool.false_and, Bool.and_false, if_true, if_false, Bool.false_eq_true, Option.isSome_some, Option.getD_some, not_true_eq_false, not_false_eq_true, Option.toList_some, Option.toList_none, List.cons_append, List.nil_append, a, fbP_128_8]
  have b' : fl_cl fl_C 146 [.ref 259] H = some (some (some (.int (fl_apA g tx tn))), Y) := by
    clear iT iO iC iG w KH KY dH dY d2 d02 i259 a a'
    rw [fbE_146]
    simp (disch := omega) only [fl_k_wl, fl_r_wl, fl_i_wl, fl_l_wl, fl_1_wl, fl_k_wi, fl_r_wi, fl_l_wi, fl_1_wi, fl_i_wi, fl_k_si, fl_r_si, fl_l_si, fl_k_sl, fl_r_sl, fl_i_sl, fl_up_self, fl_up_ne, fl_si_wi, fl_sl_wl, fl_wi_wi, fl_wl_wl, gH.1, gH.2, fl_KM, fl_RM, fl_lit, fl_nadd, fl_nmul, fl_ndiv, fl_nsub, fl_msub, fl_nle, fl_nlt, fl_neq, fl_nclamp, fl_nin, fl_ltT, fl_ltF, fl_leT, fl_leF, fl_eqT, fl_eqF, decide_true, decide_false, Bool.true_and, Bool.and_true, Bool.false_and, Bool.and_false, if_true, if_false, Bool.false_eq_true, Option.isSome_some, Option.getD_some, not_true_eq_false, not_false_eq_true, Option.toList_some, Option.toList_none, List.cons_append, List.nil_append, fbC_146_5, b, fbP_146_9]
  have y1 : ∀ q j, ¬ fl_S1 q j → fl_i Y q j = fl_i H q j ∧ fl_l Y q j = fl_l H q j := fun q j z => by
    have := (fl_df_tr d2 dY).2.2.2 q j z
    exact this
  have y3 : fl_l Y 263 0 = s := by rw [(y1 263 0 (by omega)).2, (dH.2.2.2 263 0 (by omega)).2]; exact iG.2.2.1
  have yT : ∃ n tx, fl_iT Y n tx := ⟨0, tx, by omega, Y4, by rw [(y1 1 1 (by omega)).1, (dH.2.2.2 1 1 (by omega)).1]; exact iT.2.2.1, by rw [(y1 1 2 (by omega)).1]; exact t2, fun j hj => absurd hj (by omega)⟩
  have dT : fl_df (fun q j => fl_SC 27 q j ∨ fl_S1 q j) h Y := fl_df_tr (fl_df_mo dH (fun q j z => Or.inl z)) (fl_df_mo (fl_df_tr d2 dY) (fun q j z => Or.inr z))
  have yC : ∃ n ck cm, fl_iC Y n ck cm := ⟨cn, ck, cm, fl_iC_fr iC (dT.2.2.2 259 11 (by omega)).1 (fl_df_i dT (fun j => by omega)) (fl_df_i dT (fun j => by omega)) (fl_df_i dT (fun j => by omega)) (fl_df_i dT (fun j => by omega)) (fl_df_l dT (fun j => by omega)) (fl_df_l dT (fun j => by omega))⟩
  have yR : ∀ q, 27 ≤ q → q ≤ 27 + 38 → fl_i Y q = fl_i H q ∧ fl_l Y q = fl_l H q := fun q z1 z2 => ⟨funext fun j => (y1 q j (by omega)).1, funext fun j => (y1 q j (by omega)).2⟩
  have d0 : fl_df fl_S0 h Y := fl_df_mo dT (fun q j z => z.elim (fun z => fl_SC_S0 (Or.inl rfl) z) (fun z => fl_S1_S0 z))
  refine ⟨_, _, _, a', b', ?_⟩
  by_cases K : fl_apK g tx tn
  · rw [if_pos K] at KH KY
    exact fl_Inv_df I d0 yT ⟨1, fun _ => _, by omega, KY.2.1, by rw [(y1 4 1 (by omega)).1, (dH.2.2.2 4 1 (by omega)).1]; exact iO.2.2.1, by rw [(y1 4 2 (by omega)).1]; exact KH.2.1, fun j hj => by
      have e : j = 0 := by omega
      subst e
      exact ⟨KY.2.2, by rw [(y1 6 0 (by omega)).2]; exact KH.2.2⟩⟩ yC (fl_gT_wf w _ K.2.2) KY.1 y3 (fl_rn_fr KH.1 yR)
  · rw [if_neg K] at KH KY
    exact fl_Inv_df I d0 yT ⟨rn, rv, fl_iO_fr iO (KY.2.1.trans (i259 1 (by omega))) (by rw [KY.2.2, fl_l_wi]; exact fl_df_l dH (fun j => by omega)) ((fl_df_i (fl_df_tr d2 dY) (fun j => by omega)).trans KH.2.1) ((fl_df_l (fl_df_tr d2 dY) (fun j => by omega)).trans KH.2.2)⟩ yC w KY.1 y3 (fl_rn_fr KH.1 yR)
end
