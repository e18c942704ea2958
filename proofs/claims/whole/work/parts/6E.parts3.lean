/-! parts: both alike -/
def fl_Vn (g : Nat → Nat) (n c : Nat) : Nat → Nat := fl_lay g (fl_fa (fl_lvf g) c) (fl_pn (g 1) n) (fl_hd g (fl_fa (fl_lvf g) c) (fl_ps g) (g 76)) (g 0)
/-- the best number, its least -/
def fl_bst (mf : Nat → Nat) : Nat → Nat × Nat
  | 0 => (0, 65)
  | k + 1 => if mf k < (fl_bst mf k).2 then (k, mf k) else fl_bst mf k
theorem fl_bst_le {mf : Nat → Nat} : ∀ k, (fl_bst mf k).1 ≤ k ∧ (fl_bst mf k).2 ≤ 65
  | 0 => ⟨Nat.le_refl _, Nat.le_refl _⟩
  | k + 1 => by
    have := fl_bst_le (mf := mf) k
    rw [fl_bst]
    split
    · exact ⟨Nat.le_succ k, by omega⟩
    · exact ⟨by omega, this.2⟩
theorem fl_Vn_le {g : Nat → Nat} (w : fl_wf g) (n c k : Nat) : fl_Vn g n c k ≤ 2 := fl_lay_le (fl_pn_ok w.1.2.1).2 (fun k hk => fl_hd_le w (fl_okp_g w) (g 76) (Nat.le_refl _) k hk) (g 0) k (Nat.le_refl _)
abbrev fl_SP (q _j : Nat) : Prop := 184 ≤ q ∧ q ≤ 210
section
variable {k0 : Nat → Nat × Nat} {h : fl_H} {g : Nat → Nat} {c : Nat × Nat × Nat × Bool} {s : Int64}
theorem fr_51n {a b : Nat} (ha : a < 900) (hb : b < 900) : fl_cl fl_C 51 [.int (Int32.ofNat a), .int (Int32.ofNat b)] h = some (some (some (.int (Int32.ofNat (min a b)))), h) := by
  rw [fbE_51]
  by_cases c : b < a
  · rw [fl_ifd (show Int32.ofNat b < Int32.ofNat a by rw [fl_nlt (by omega) (by omega)]; exact c), Nat.min_eq_right (by omega)]
  · rw [fl_ifn (show ¬ Int32.ofNat b < Int32.ofNat a by rw [fl_nlt (by omega) (by omega)]; exact c), Nat.min_eq_left (by omega)]
/-- the probe behind the run, a pattern more -/
theorem fc_prb {x : fl_H} (hg : fl_g k0 x) (w : fl_wf g) (nt : fl_net x 28 g) (bn : fl_bn x 183 g (g 76) (fl_ps g)) (n : Nat) : ∃ y z, fl_cl fl_C 147 [.ref 202, .ref 193] x = some (some none, y) ∧ fl_df fl_SP x y ∧ fl_cl fl_C 115 [.ref 202, .ref 28, .int (Int32.ofNat (fl_pn (g 1) n)), .long (fl_B (fl_lvf g))] y = some (some none, z) ∧ fl_df fl_SP x z ∧ (∀ k, k < g 0 → fl_l z 204 k = fl_B (fun c => decide (fl_Vn g n c k = 1)) ∧ fl_l z 206 k = fl_B (fun c => decide (fl_Vn g n c k = 0))) ∧ fl_bn z 183 g (g 76) (fl_ps g) := by
  have w0 : g 0 ≤ 12 := w.1.2.2.2.1
  have N := fl_sk28 (k0 := k0)
  have b183 := fl_o183 (k0 := k0)
  have S := fl_o202 (k0 := k0)
  have e147 := fc_147 (o := 202) (p := 193) hg S b183.2.2 (by omega)
  have dy : fl_df fl_SP x (fl_cpS x 202 193) := ⟨fl_1_cpS, fl_k_cpS, fl_r_cpS, fun q j z => ⟨by rw [fl_i_cpS], by rw [fl_l_cpS (by omega)]⟩⟩
  have cj := fun k (hk : k < 12) => fl_l_cpSj (h := x) (o := 202) (p := 193) (by omega) hk
  have gy := fl_df_g hg dy
  have ny : fl_net (fl_cpS x 202 193) 28 g := fl_net_fr nt (fl_df_i dy (fun j => by omega)) (fun q z1 z2 => fl_df_l dy (fun j => by omega))
  have p := fl_pn_ok (n := n) w.1.2.1
  have e115 := fc_115 gy N S w ny (by omega) p.1 p.2 (fl_lvf g) (fun c => fl_hd g (fl_fa (fl_lvf g) c) (fl_ps g) (g 76)) (fun c k hk => fl_hd_le w (fl_okp_g w) (g 76) (Nat.le_refl _) k hk) (fun k hk h8 => by
    have j := cj k (by omega)
    rw [j.2.2.1, j.2.2.2]
    exact (bn k hk h8).2)
  have dz : fl_df fl_SP x (fl_tc (fl_cpS x 202 193) 202 g (fl_lvf g) (fl_pn (g 1) n) (fun c => fl_hd g (fl_fa (fl_lvf g) c) (fl_ps g) (g 76))) := fl_df_tr dy (fl_tc_df (fun q j z => by omega))
  refine ⟨_, _, e147, dy, e115, dz, fun k hk => ⟨fl_tc_1 hk, fl_tc_0 hk⟩, fun k hk h8 => ?_⟩
  have e : ∀ q, 184 ≤ q → q ≤ 201 → fl_l (fl_tc (fl_cpS x 202 193) 202 g (fl_lvf g) (fl_pn (g 1) n) (fun c => fl_hd g (fl_fa (fl_lvf g) c) (fl_ps g) (g 76))) q = fl_l x q := fun q h1 h2 => by
    rw [fl_tc_lo (by omega) (by omega) (by omega) (by omega), fl_l_cpS (by omega)]
  rw [e _ (by omega) (by omega), e _ (by omega) (by omega), e _ (by omega) (by omega), e _ (by omega) (by omega)]
  exact bn k hk h8
theorem fo_parts_a0 (hg : fl_g k0 h) (w : fl_wf g) (d : fl_rn h 27 g s) (lt : fl_cnt (fl_hb s) 64 < 2) : fl_cl fl_C 245 [.ref 0] h = some (some (some (.int (-Int32.ofNat 2))), h) := by
  have R := fl_o27 (k0 := k0)
  have o27 : fl_KK k0 27 = (1, 7) ∧ fl_RR 27 0 = some 28 := ⟨R.1.1, R.1.2.1⟩
  have l7 := d.2.2.1.2.2.1
  have b := fc_126 (h := h) s
  clear w d R
  generalize fl_cnt (fl_hb s) 64 = C at *
  rw [fbE_245]
  simp (disch := omega) only [hg.1, hg.2, fl_KF, fl_RF, o27, fl_lit, fl_nadd, fl_nmul, fl_ndiv, fl_nsub, fl_msub, fl_nle, fl_nlt, fl_neq, fl_nclamp, fl_nin, fl_ltT, fl_ltF, fl_leT, fl_leF, fl_eqT, fl_eqF, decide_true, decide_false, Bool.true_and, Bool.and_true, Bool.false_and, Bool.and_false, if_true, if_false, Bool.false_eq_true, Option.isSome_some, Option.getD_some, not_true_eq_false, not_false_eq_true, Option.toList_some, Option.toList_none, List.cons_append, List.nil_append, l7, b, fbP_245_18]
theorem fo_parts_a (hg : fl_g k0 h) (w : fl_wf g) (d : fl_rn h 27 g s) (e1 : fl_i h 4 1 = Int32.ofNat 6) (ge : 2 ≤ fl_cnt (fl_hb s) 64) : ∃ y, fl_df fl_SP h y ∧ fl_cl fl_C 245 [.ref 0] h = some (some (some (.int (Int32.ofNat (fl_bst (fun n => fl_mcl s g (fl_Vn g n) 64) (2 ^ g 1)).1))), fl_ca1 y (Int32.toInt64 (Int32.ofNat (fl_bst (fun n => fl_mcl s g (fl_Vn g n) 64) (2 ^ g 1)).2))) := by
  have N := fl_sk28 (k0 := k0)
  have b183 := fl_o183 (k0 := k0)
  have R := fl_o27 (k0 := k0)
  have w7 : g 76 ≤ 24 := w.1.2.2.2.2.2.2.2.1
  have w4 : g 1 ≤ 4 := w.1.2.1
  have p16 := fl_p2 w4
  have nt : fl_net h 28 g := d.1
  have ok' : fl_okp g (fl_ps g) (g 76) := fl_okp_g w
  obtain ⟨y0, e27, d0, bn0⟩ := fc_bs hg N b183 w nt (by omega)
  have ntx : ∀ {x : fl_H}, fl_df fl_SP h x → fl_net x 28 g := fun a => fl_net_fr nt (fl_df_i a (fun j => by omega)) (fun q z1 z2 => fl_df_l a (fun j => by omega))
  have o27 : fl_KK k0 27 = (1, 7) ∧ fl_RR 27 0 = some 28 ∧ fl_RR 27 2 = some 60 := ⟨R.1.1, R.1.2.1, R.1.2.2.2.1⟩
  have o60 : fl_KK k0 60 = (1, 1) := R.2.2.2.1.1
  have o183 := b183.1
  have o193 : fl_KK k0 193 = (1, 9) := b183.2.2.1.1
  have o202 := (fl_o202 (k0 := k0)).1.1
  have o28 := N.1.1
  have l7 := d.2.2.1.2.2.1
  have st : fl_cl fl_C 245 [.ref 0] h = fl_Rn fl_C 245 35 [some (.ref 0), some (.ref 28), some (.int (Int32.ofNat 0))] [] y0 := by
    have b := fc_126 (h := h) s
    have c64 := fl_cnt_le (q := fl_hb s) 64
    clear w d ntx bn0 d0 N b183 R ok'
    generalize fl_cnt (fl_hb s) 64 = C at *
    rw [fbE_245]
    simp (disch := omega) only [hg.1, hg.2, fl_KF, fl_RF, o27, o28, o183, fl_lit, fl_nadd, fl_nmul, fl_ndiv, fl_nsub, fl_msub, fl_nle, fl_nlt, fl_neq, fl_nclamp, fl_nin, fl_ltT, fl_ltF, fl_leT, fl_leF, fl_eqT, fl_eqF, decide_true, decide_false, Bool.true_and, Bool.and_true, Bool.false_and, Bool.and_false, if_true, if_false, Bool.false_eq_true, Option.isSome_some, Option.getD_some, not_true_eq_false, not_false_eq_true, Option.toList_some, Option.toList_none, List.cons_append, List.nil_append, l7, b, fbP_245_18, e27, fbP_245_33]
  rw [st]
  clear st e27
  suffices fl_to (fl_Rn fl_C 245 35 [some (.ref 0), some (.ref 28), some (.int (Int32.ofNat 0))] [] y0) (fun v z => v = some (.int (Int32.ofNat (fl_bst (fun n => fl_mcl s g (fl_Vn g n) 64) (2 ^ g 1)).1)) ∧ ∃ y, fl_df fl_SP h y ∧ z = fl_ca1 y (Int32.toInt64 (Int32.ofNat (fl_bst (fun n => fl_mcl s g (fl_Vn g n) 64) (2 ^ g 1)).2))) by
    obtain ⟨v, z, e, rfl, y, dy, rfl⟩ := this
    exact ⟨y, dy, e⟩
  have mo : ∀ {x y : fl_H}, fl_df (fl_SB 183) x y → fl_df fl_SP x y := fun a => fl_df_mo a (fun q j z => by omega)
  refine fl_loopT (F := fun t x => fl_Rn fl_C 245 35 [some (.ref 0), some (.ref 28), some (.int (Int32.ofNat t))] [] x) (fun t x => fl_df fl_SP h x ∧ fl_bn x 183 g t (fl_ps g)) (g 76) ?_ ?_ 0 y0 (Nat.zero_le _) ⟨mo d0, bn0 _⟩
  · rintro x ⟨dx, bn⟩
    have gx := fl_df_g hg dx
    have i3 : fl_i x 27 3 = Int32.ofNat (g 76) := by rw [(dx.2.2.2 27 3 (by omega)).1]; exact d.2.1.1
    have ex : fl_Rn fl_C 245 35 [some (.ref 0), some (.ref 28), some (.int (Int32.ofNat (g 76)))] [] x = fl_Rn fl_C 245 83 [some (.ref 0), some (.ref 28), some (.int (Int32.ofNat 0)), some (.int (Int32.ofNat 65)), some (.int (Int32.ofNat 0))] [] x := by
      clear w d ntx bn dx bn0 d0 N b183 R ok' mo
      rw [fbC_245_35]
      simp (disch := omega) only [gx.1, gx.2, fl_KF, fl_RF, o27, fl_lit, fl_nadd, fl_nmul, fl_ndiv, fl_nsub, fl_msub, fl_nle, fl_nlt, fl_neq, fl_nclamp, fl_nin, fl_ltT, fl_ltF, fl_leT, fl_leF, fl_eqT, fl_eqF, decide_true, decide_false, Bool.true_and, Bool.and_true, Bool.false_and, Bool.and_false, if_true, if_false, Bool.false_eq_true, Option.isSome_some, Option.getD_some, not_true_eq_false, not_false_eq_true, Option.toList_some, Option.toList_none, List.cons_append, List.nil_append, i3]
    rw [ex]
    clear ex i3
    refine fl_loopT (F := fun n x => fl_Rn fl_C 245 83 [some (.ref 0), some (.ref 28), some (.int (Int32.ofNat (fl_bst (fun n => fl_mcl s g (fl_Vn g n) 64) n).1)), some (.int (Int32.ofNat (fl_bst (fun n => fl_mcl s g (fl_Vn g n) 64) n).2)), some (.int (Int32.ofNat n))] [] x) (fun _ x => fl_df fl_SP h x ∧ fl_bn x 183 g (g 76) (fl_ps g)) (2 ^ g 1) ?_ ?_ 0 x (Nat.zero_le _) ⟨dx, bn⟩
    · rintro z ⟨dz, -⟩
      have gz := fl_df_g hg dz
      have i0 : fl_i z 28 0 = Int32.ofNat (g 1) := (ntx dz).1.1
      have z1 : fl_i z 4 1 = Int32.ofNat 6 := by rw [(dz.2.2.2 4 1 (by omega)).1]; exact e1
      have sh := fl_sh1 (g 1) (by omega)
      have t1 := fc_ca1 gz z1 (Int32.toInt64 (Int32.ofNat (fl_bst (fun n => fl_mcl s g (fl_Vn g n) 64) (2 ^ g 1)).2))
      have fin : fl_Rn fl_C 245 83 [some (.ref 0), some (.ref 28), some (.int (Int32.ofNat (fl_bst (fun n => fl_mcl s g (fl_Vn g n) 64) (2 ^ g 1)).1)), some (.int (Int32.ofNat (fl_bst (fun n => fl_mcl s g (fl_Vn g n) 64) (2 ^ g 1)).2)), some (.int (Int32.ofNat (2 ^ g 1)))] [] z = some (some (some (.int (Int32.ofNat (fl_bst (fun n => fl_mcl s g (fl_Vn g n) 64) (2 ^ g 1)).1))), fl_ca1 z (Int32.toInt64 (Int32.ofNat (fl_bst (fun n => fl_mcl s g (fl_Vn g n) 64) (2 ^ g 1)).2))) := by
        clear w d ntx bn dx bn0 d0 N b183 R ok' mo dz
        generalize fl_ca1 z (Int32.toInt64 (Int32.ofNat (fl_bst (fun n => fl_mcl s g (fl_Vn g n) 64) (2 ^ g 1)).2)) = H1 at *
        generalize (fl_bst (fun n => fl_mcl s g (fl_Vn g n) 64) (2 ^ g 1)).1 = B1 at *
        generalize (fl_bst (fun n => fl_mcl s g (fl_Vn g n) 64) (2 ^ g 1)).2 = B2 at *
        rw [fbC_245_83]
        simp (disch := omega) only [gz.1, gz.2, fl_KF, fl_RF, o28, fl_lit, fl_nadd, fl_nmul, fl_ndiv, fl_nsub, fl_msub, fl_nle, fl_nlt, fl_neq, fl_nclamp, fl_nin, fl_ltT, fl_ltF, fl_leT, fl_leF, fl_eqT, fl_eqF, decide_true, decide_false, Bool.true_and, Bool.and_true, Bool.false_and, Bool.and_false, if_true, if_false, Bool.false_eq_true, Option.isSome_some, Option.getD_some, not_true_eq_false, not_false_eq_true, Option.toList_some, Option.toList_none, List.cons_append, List.nil_append, i0, sh, t1, fbP_245_160]
      exact ⟨_, _, fin, rfl, z, dz, rfl⟩
    · rintro n z hn ⟨dz, bz⟩ hy
      have gz := fl_df_g hg dz
      have nz := ntx dz
      have i0 : fl_i z 28 0 = Int32.ofNat (g 1) := nz.1.1
      have sh := fl_sh1 (g 1) (by omega)
      obtain ⟨y1, y2, e147, dy1, e115, dy2, v2, b2⟩ := fc_prb gz w nz bz n
      have g1 := fl_df_g gz dy1
      have g2 := fl_df_g gz dy2
      have e211 := fc_211 g1 w (ntx (fl_df_tr dz dy1)) (n := n) (by omega)
      have e110 : fl_cl fl_C 110 [.ref 28] y1 = some (some (some (.long (fl_B (fl_lvf g)))), y1) := fc_110 g1 N w (ntx (fl_df_tr dz dy1))
      have dT := fl_df_tr dz dy2
      have e244 := fc_244 g2 w (ntx dT) (V := fl_Vn g n) (fl_Vn_le w n) v2 (s := s) (by rw [(dT.2.2.2 27 7 (by omega)).2]; exact l7)
      have m64 := fl_mcl_64 (s := s) (g := g) (V := fl_Vn g n) 64
      have bl := fl_bst_le (mf := fun n => fl_mcl s g (fl_Vn g n) 64) n
      have bs : fl_bst (fun n => fl_mcl s g (fl_Vn g n) 64) (n + 1) = if fl_mcl s g (fl_Vn g n) 64 < (fl_bst (fun n => fl_mcl s g (fl_Vn g n) 64) n).2 then (n, fl_mcl s g (fl_Vn g n) 64) else fl_bst (fun n => fl_mcl s g (fl_Vn g n) 64) n := rfl
      have fin : fl_Rn fl_C 245 83 [some (.ref 0), some (.ref 28), some (.int (Int32.ofNat (fl_bst (fun n => fl_mcl s g (fl_Vn g n) 64) n).1)), some (.int (Int32.ofNat (fl_bst (fun n => fl_mcl s g (fl_Vn g n) 64) n).2)), some (.int (Int32.ofNat n))] [] z = fl_Rn fl_C 245 83 [some (.ref 0), some (.ref 28), some (.int (Int32.ofNat (fl_bst (fun n => fl_mcl s g (fl_Vn g n) 64) (n + 1)).1)), some (.int (Int32.ofNat (fl_bst (fun n => fl_mcl s g (fl_Vn g n) 64) (n + 1)).2)), some (.int (Int32.ofNat (n + 1)))] [] y2 := by
        rw [bs]
        clear w d ntx bn dx bn0 d0 N b183 R ok' mo dz bs dT v2 b2 dy1 dy2 hy nz bz
        generalize fl_bst (fun n => fl_mcl s g (fl_Vn g n) 64) n = BB at *
        generalize fl_mcl s g (fl_Vn g n) 64 = MM at *
        generalize fl_pn (g 1) n = PP at *
        by_cases c : MM < BB.2
        · rw [if_pos c, fbC_245_83]
          simp (disch := omega) only [gz.1, gz.2, g1.1, g1.2, g2.1, g2.2, fl_KF, fl_RF, o28, o183, o193, o202, fl_lit, fl_nadd, fl_nmul, fl_ndiv, fl_nsub, fl_msub, fl_nle, fl_nlt, fl_neq, fl_nclamp, fl_nin, fl_ltT, fl_ltF, fl_leT, fl_leF, fl_eqT, fl_eqF, decide_true, decide_false, Bool.true_and, Bool.and_true, Bool.false_and, Bool.and_false, if_true, if_false, Bool.false_eq_true, Option.isSome_some, Option.getD_some, not_true_eq_false, not_false_eq_true, Option.toList_some, Option.toList_none, List.cons_append, List.nil_append, i0, sh, e147, fbP_245_108, e211, fbP_245_119, e110, fbP_245_123, e115, fbP_245_126, e244, fbP_245_134, fbC_245_148]
        · rw [if_neg c, fbC_245_83]
          simp (disch := omega) only [gz.1, gz.2, g1.1, g1.2, g2.1, g2.2, fl_KF, fl_RF, o28, o183, o193, o202, fl_lit, fl_nadd, fl_nmul, fl_ndiv, fl_nsub, fl_msub, fl_nle, fl_nlt, fl_neq, fl_nclamp, fl_nin, fl_ltT, fl_ltF, fl_leT, fl_leF, fl_eqT, fl_eqF, decide_true, decide_false, Bool.true_and, Bool.and_true, Bool.false_and, Bool.and_false, if_true, if_false, Bool.false_eq_true, Option.isSome_some, Option.getD_some, not_true_eq_false, not_false_eq_true, Option.toList_some, Option.toList_none, List.cons_append, List.nil_append, i0, sh, e147, fbP_245_108, e211, fbP_245_119, e110, fbP_245_123, e115, fbP_245_126, e244, fbP_245_134, fbC_245_148]
      rw [fin]
      exact hy y2 ⟨dT, b2⟩
  · rintro t x ht ⟨dx, bn⟩ hy
    have gx := fl_df_g hg dx
    have nx := ntx dx
    have i3 : fl_i x 27 3 = Int32.ofNat (g 76) := by rw [(dx.2.2.2 27 3 (by omega)).1]; exact d.2.1.1
    have e110 : fl_cl fl_C 110 [.ref 28] x = some (some (some (.long (fl_B (fl_lvf g)))), x) := fc_110 gx N w nx
    have pv := d.2.2.2.1 t (by omega)
    have e24 := fc_int R.2.2.2.1 gx (show t < 24 by omega)
    rw [(dx.2.2.2 (27 + 34) t (by omega)).2, pv, fl_o32, show g (78 + t) = fl_ps g t from rfl] at e24
    obtain ⟨y, e116, dy, bny, -⟩ := fc_bt gx N b183 w nx (by omega) (fun i hi => ok' i (by omega)) bn
    have fin : fl_Rn fl_C 245 35 [some (.ref 0), some (.ref 28), some (.int (Int32.ofNat t))] [] x = fl_Rn fl_C 245 35 [some (.ref 0), some (.ref 28), some (.int (Int32.ofNat (t + 1)))] [] y := by
      clear w d ntx bn dx bn0 d0 N b183 R ok' mo dy bny hy nx
      rw [fbC_245_35]
      simp (disch := omega) only [gx.1, gx.2, fl_KF, fl_RF, o27, o28, o60, o183, fl_lit, fl_nadd, fl_nmul, fl_ndiv, fl_nsub, fl_msub, fl_nle, fl_nlt, fl_neq, fl_nclamp, fl_nin, fl_ltT, fl_ltF, fl_leT, fl_leF, fl_eqT, fl_eqF, decide_true, decide_false, Bool.true_and, Bool.and_true, Bool.false_and, Bool.and_false, if_true, if_false, Bool.false_eq_true, Option.isSome_some, Option.getD_some, not_true_eq_false, not_false_eq_true, Option.toList_some, Option.toList_none, List.cons_append, List.nil_append, i3, e24, fbP_245_62, e110, fbP_245_66, e116, fbP_245_69]
    rw [fin]
    exact hy y ⟨fl_df_tr dx (mo dy), bny⟩
theorem fo_parts_b0 (hg : fl_g k0 h) (l3 : fl_l h 263 0 = s) (lt : fl_cnt (fl_hb s) 64 < 2) : fl_cl fl_C 248 [.ref 259] h = some (some (some (.int (-Int32.ofNat 2))), fl_wi h 259 (fl_up (fl_i h 259) 0 (Int32.ofNat 0))) := by
  have b := fr_144 (h := fl_wi h 259 (fl_up (fl_i h 259) 0 (Int32.ofNat 0))) s
  generalize fl_cnt (fl_hb s) 64 = C at *
  rw [fbE_248]
  simp (disch := omega) only [fl_k_wl, fl_r_wl, fl_i_wl, fl_l_wl, fl_1_wl, fl_k_wi, fl_r_wi, fl_l_wi, fl_1_wi, fl_i_wi, fl_k_si, fl_r_si, fl_l_si, fl_k_sl, fl_r_sl, fl_i_sl, fl_up_self, fl_up_ne, fl_si_wi, fl_sl_wl, fl_wi_wi, fl_wl_wl, hg.1, hg.2, fl_KM, fl_RM, fl_lit, fl_nadd, fl_nmul, fl_ndiv, fl_nsub, fl_msub, fl_nle, fl_nlt, fl_neq, fl_nclamp, fl_nin, fl_ltT, fl_ltF, fl_leT, fl_leF, fl_eqT, fl_eqF, decide_true, decide_false, Bool.true_and, Bool.and_true, Bool.false_and, Bool.and_false, if_true, if_false, Bool.false_eq_true, Option.isSome_some, Option.getD_some, not_true_eq_false, not_false_eq_true, Option.toList_some, Option.toList_none, List.cons_append, List.nil_append, fbC_248_5, l3, b, fbP_248_14]
theorem fo_parts_b (hg : fl_g k0 h) (m : fl_mm h g) (w : fl_wf g) (l3 : fl_l h 263 0 = s) (ge : 2 ≤ fl_cnt (fl_hb s) 64) (sub : ∀ c, c < 64 → fl_hb s c = true → c < 2 * (g 0 + g 2)) : ∃ y, fl_df fl_scr h y ∧ fl_cl fl_C 248 [.ref 259] h = some (some (some (.int (Int32.ofNat (fl_bst (fun n => fl_mcl s g (fl_Vn g n) 64) (2 ^ g 1)).1))), fl_ra1 y (Int32.toInt64 (Int32.ofNat (fl_bst (fun n => fl_mcl s g (fl_Vn g n) 64) (2 ^ g 1)).2))) := by
  have w0 : g 0 ≤ 12 := w.1.2.2.2.1
  have w2 : g 2 ≤ 20 := w.1.2.2.2.2.1
  have w4 : g 1 ≤ 4 := w.1.2.1
  have p16 := fl_p2 w4
  have d0 : fl_df fl_scr h (fl_wi h 259 (fl_up (fl_i h 259) 0 (Int32.ofNat 0))) := fl_up0_df (by omega)
  have st : fl_cl fl_C 248 [.ref 259] h = fl_Rn fl_C 248 28 [some (.ref 259), some (.int (-Int32.ofNat 1)), some (.int (Int32.ofNat 65)), some (.int (Int32.ofNat 0))] [] (fl_wi h 259 (fl_up (fl_i h 259) 0 (Int32.ofNat 0))) := by
    have b := fr_144 (h := fl_wi h 259 (fl_up (fl_i h 259) 0 (Int32.ofNat 0))) s
    have c64 := fl_cnt_le (q := fl_hb s) 64
    clear m w sub d0
    generalize fl_cnt (fl_hb s) 64 = C at *
    rw [fbE_248]
    simp (disch := omega) only [fl_k_wl, fl_r_wl, fl_i_wl, fl_l_wl, fl_1_wl, fl_k_wi, fl_r_wi, fl_l_wi, fl_1_wi, fl_i_wi, fl_k_si, fl_r_si, fl_l_si, fl_k_sl, fl_r_sl, fl_i_sl, fl_up_self, fl_up_ne, fl_si_wi, fl_sl_wl, fl_wi_wi, fl_wl_wl, hg.1, hg.2, fl_KM, fl_RM, fl_lit, fl_nadd, fl_nmul, fl_ndiv, fl_nsub, fl_msub, fl_nle, fl_nlt, fl_neq, fl_nclamp, fl_nin, fl_ltT, fl_ltF, fl_leT, fl_leF, fl_eqT, fl_eqF, decide_true, decide_false, Bool.true_and, Bool.and_true, Bool.false_and, Bool.and_false, if_true, if_false, Bool.false_eq_true, Option.isSome_some, Option.getD_some, not_true_eq_false, not_false_eq_true, Option.toList_some, Option.toList_none, List.cons_append, List.nil_append, fbC_248_5, l3, b, fbP_248_14]
  rw [st]
  clear st
  generalize fl_wi h 259 (fl_up (fl_i h 259) 0 (Int32.ofNat 0)) = H at *
  suffices fl_to (fl_Rn fl_C 248 28 [some (.ref 259), some (.int (-Int32.ofNat 1)), some (.int (Int32.ofNat 65)), some (.int (Int32.ofNat 0))] [] H) (fun v z => v = some (.int (Int32.ofNat (fl_bst (fun n => fl_mcl s g (fl_Vn g n) 64) (2 ^ g 1)).1)) ∧ ∃ y, fl_df fl_scr h y ∧ z = fl_ra1 y (Int32.toInt64 (Int32.ofNat (fl_bst (fun n => fl_mcl s g (fl_Vn g n) 64) (2 ^ g 1)).2))) by
    obtain ⟨v, z, e, rfl, y, dy, rfl⟩ := this
    exact ⟨y, dy, e⟩
  refine fl_loopT (F := fun n x => fl_Rn fl_C 248 28 [some (.ref 259), some (.int (if n = 0 then -Int32.ofNat 1 else Int32.ofNat (fl_bst (fun n => fl_mcl s g (fl_Vn g n) 64) n).1)), some (.int (Int32.ofNat (fl_bst (fun n => fl_mcl s g (fl_Vn g n) 64) n).2)), some (.int (Int32.ofNat n))] [] x) (fun _ x => fl_df fl_scr h x) (2 ^ g 1) ?_ ?_ 0 H (Nat.zero_le _) d0
  · intro x dx
    have gx := fl_df_g hg dx
    have e129 := fr_129h gx
    rw [(dx.2.2.2 262 1 (by omega)).1, m 1 (by omega)] at e129
    have sh := fl_sh1 (g 1) (by omega)
    have t1 := fr_ra1 gx (Int32.toInt64 (Int32.ofNat (fl_bst (fun n => fl_mcl s g (fl_Vn g n) 64) (2 ^ g 1)).2))
    have ga := fl_a0_g gx
    have pp : 0 < 2 ^ g 1 := Nat.pow_pos (by decide)
    have fin : fl_Rn fl_C 248 28 [some (.ref 259), some (.int (if 2 ^ g 1 = 0 then -Int32.ofNat 1 else Int32.ofNat (fl_bst (fun n => fl_mcl s g (fl_Vn g n) 64) (2 ^ g 1)).1)), some (.int (Int32.ofNat (fl_bst (fun n => fl_mcl s g (fl_Vn g n) 64) (2 ^ g 1)).2)), some (.int (Int32.ofNat (2 ^ g 1)))] [] x = some (some (some (.int (Int32.ofNat (fl_bst (fun n => fl_mcl s g (fl_Vn g n) 64) (2 ^ g 1)).1))), fl_ra1 x (Int32.toInt64 (Int32.ofNat (fl_bst (fun n => fl_mcl s g (fl_Vn g n) 64) (2 ^ g 1)).2))) := by
      rw [if_neg (by omega)]
      clear w m sub dx d0
      generalize fl_ra1 x (Int32.toInt64 (Int32.ofNat (fl_bst (fun n => fl_mcl s g (fl_Vn g n) 64) (2 ^ g 1)).2)) = H1 at *
      generalize (fl_bst (fun n => fl_mcl s g (fl_Vn g n) 64) (2 ^ g 1)).1 = B1 at *
      generalize (fl_bst (fun n => fl_mcl s g (fl_Vn g n) 64) (2 ^ g 1)).2 = B2 at *
      rw [fbC_248_28]
      simp (disch := omega) only [fl_si_wi, gx.1, ga.1, fl_KM, fl_RM, fl_lit, fl_nadd, fl_nmul, fl_ndiv, fl_nsub, fl_msub, fl_nle, fl_nlt, fl_neq, fl_nclamp, fl_nin, fl_ltT, fl_ltF, fl_leT, fl_leF, fl_eqT, fl_eqF, decide_true, decide_false, Bool.true_and, Bool.and_true, Bool.false_and, Bool.and_false, if_true, if_false, Bool.false_eq_true, Option.isSome_some, Option.getD_some, not_true_eq_false, not_false_eq_true, Option.toList_some, Option.toList_none, List.cons_append, List.nil_append, e129, fbP_248_34, sh, fl_a0_w, fbC_248_79, t1, fbP_248_85]
    exact ⟨_, _, fin, rfl, x, dx, rfl⟩
  · intro n x hn dx hy
    have gx := fl_df_g hg dx
    have mx : fl_mm x g := fun j hj => by rw [(dx.2.2.2 262 j (by omega)).1]; exact m j hj
    have e129 := fr_129h gx
    rw [mx 1 (by omega)] at e129
    have sh := fl_sh1 (g 1) (by omega)
    have e222 := fr_222 gx w mx (n := n) (by omega)
    have p := fl_pn_ok (n := n) w4
    obtain ⟨v, y, e247, rfl, fy⟩ := fr_247 gx mx w p.1 p.2 (s := s) (V := fl_Vn g n) (by rw [(dx.2.2.2 263 0 (by omega)).2]; exact l3) (fl_Vn_le w n) (fun f hf => by
      have e : fl_fa (fl_lvf g) f = f := by unfold fl_fa; rw [if_pos (decide_eq_true hf)]
      unfold fl_Vn
      rw [e])
    rw [← fl_m_eq (by omega) sub] at e247
    have m64 := fl_mcl_64 (s := s) (g := g) (V := fl_Vn g n) 64
    have bl := fl_bst_le (mf := fun n => fl_mcl s g (fl_Vn g n) 64) n
    have bz : n = 0 → (fl_bst (fun n => fl_mcl s g (fl_Vn g n) 64) n).2 = 65 := fun z => by rw [z]; rfl
    have bs : fl_bst (fun n => fl_mcl s g (fl_Vn g n) 64) (n + 1) = if fl_mcl s g (fl_Vn g n) 64 < (fl_bst (fun n => fl_mcl s g (fl_Vn g n) 64) n).2 then (n, fl_mcl s g (fl_Vn g n) 64) else fl_bst (fun n => fl_mcl s g (fl_Vn g n) 64) n := rfl
    have fin : fl_Rn fl_C 248 28 [some (.ref 259), some (.int (if n = 0 then -Int32.ofNat 1 else Int32.ofNat (fl_bst (fun n => fl_mcl s g (fl_Vn g n) 64) n).1)), some (.int (Int32.ofNat (fl_bst (fun n => fl_mcl s g (fl_Vn g n) 64) n).2)), some (.int (Int32.ofNat n))] [] x = fl_Rn fl_C 248 28 [some (.ref 259), some (.int (if n + 1 = 0 then -Int32.ofNat 1 else Int32.ofNat (fl_bst (fun n => fl_mcl s g (fl_Vn g n) 64) (n + 1)).1)), some (.int (Int32.ofNat (fl_bst (fun n => fl_mcl s g (fl_Vn g n) 64) (n + 1)).2)), some (.int (Int32.ofNat (n + 1)))] [] y := by
      rw [if_neg (show ¬ n + 1 = 0 by omega), bs]
      have e51 := fr_51n (h := y) (a := (fl_bst (fun n => fl_mcl s g (fl_Vn g n) 64) n).2) (b := fl_mcl s g (fl_Vn g n) 64) (by omega) (by omega)
      clear w m mx sub dx d0 bs fy hy p
      generalize fl_bst (fun n => fl_mcl s g (fl_Vn g n) 64) n = BB at *
      generalize fl_mcl s g (fl_Vn g n) 64 = MM at *
      generalize fl_pn (g 1) n = PP at *
      by_cases c : MM < BB.2
      · rw [if_pos c]
        rw [Nat.min_eq_right (by omega)] at e51
        rw [fbC_248_28]
        simp (disch := omega) only [gx.1, fl_KM, fl_RM, fl_lit, fl_nadd, fl_nmul, fl_ndiv, fl_nsub, fl_msub, fl_nle, fl_nlt, fl_neq, fl_nclamp, fl_nin, fl_ltT, fl_ltF, fl_leT, fl_leF, fl_eqT, fl_eqF, decide_true, decide_false, Bool.true_and, Bool.and_true, Bool.false_and, Bool.and_false, if_true, if_false, Bool.false_eq_true, Option.isSome_some, Option.getD_some, not_true_eq_false, not_false_eq_true, Option.toList_some, Option.toList_none, List.cons_append, List.nil_append, e129, fbP_248_34, sh, e222, fbP_248_44, e247, fbP_248_47, e51, fbP_248_67]
      · rw [if_neg c]
        rw [Nat.min_eq_left (by omega)] at e51
        have n0 : ¬ n = 0 := fun z => by have := bz z; omega
        rw [if_neg n0, fbC_248_28]
        simp (disch := omega) only [gx.1, fl_KM, fl_RM, fl_lit, fl_nadd, fl_nmul, fl_ndiv, fl_nsub, fl_msub, fl_nle, fl_nlt, fl_neq, fl_nclamp, fl_nin, fl_ltT, fl_ltF, fl_leT, fl_leF, fl_eqT, fl_eqF, decide_true, decide_false, Bool.true_and, Bool.and_true, Bool.false_and, Bool.and_false, if_true, if_false, Bool.false_eq_true, Option.isSome_some, Option.getD_some, not_true_eq_false, not_false_eq_true, Option.toList_some, Option.toList_none, List.cons_append, List.nil_append, e129, fbP_248_34, sh, e222, fbP_248_44, e247, fbP_248_47, e51, fbP_248_67]
    rw [fin]
    exact hy y (fl_df_tr dx (fl_df_fx fy (fun q j z => Or.inl (by omega))))
theorem fo_parts (I : fl_Inv k0 c h) : fl_both k0 c 245 248 [] [] h := by
  obtain ⟨rn, rv, iO⟩ := I.2.2.2.1
  obtain ⟨g, g1, g2, b1, b2, r, s1, s2, iG⟩ := I.2.2.2.2.2
  have w := iG.1
  by_cases lt : fl_cnt (fl_hb r) 64 < 2
  · exact ⟨_, _, _, fo_parts_a0 I.1 w iG.2.2.2.1 lt, fo_parts_b0 I.1 iG.2.2.1 lt, fl_Inv_qt I fl_qt_0⟩
  · obtain ⟨y, dy, a⟩ := fo_parts_a I.1 w iG.2.2.2.1 iO.2.2.1 (by omega)
    have d1 : fl_df (fun q j => (144 ≤ q ∧ q ≤ 258) ∨ fl_Sc6 q j) h (fl_ca1 y (Int32.toInt64 (Int32.ofNat (fl_bst (fun n => fl_mcl r g (fl_Vn g n) 64) (2 ^ g 1)).2))) := fl_df_tr (fl_df_mo dy (fun q j z => Or.inl (by omega))) (fl_df_mo fl_ca1_df (fun q j z => Or.inr z))
    obtain ⟨z, dz, b⟩ := fo_parts_b (fl_df_g I.1 d1) (fun j hj => by rw [(d1.2.2.2 262 j (by omega)).1]; exact iG.2.1 j hj) w (s := r) (by rw [(d1.2.2.2 263 0 (by omega)).2]; exact iG.2.2.1) (by omega) iG.2.2.2.1.2.2.1.2.2.2
    exact fo_tell1 I a (fl_df_mo dy (fun q j z => by omega)) b dz
end
