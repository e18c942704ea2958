/-! holds -/
section
variable {k0 : Nat → Nat × Nat} {h : fl_H} {c : Nat × Nat × Nat × Bool}
theorem fc_65' {g : Nat → Nat} {n : Nat} (hg : fl_g k0 h) (nn : fl_isN k0 n) (w : fl_wf g) (d : fl_net h n g) (p : Int32) : fl_cl fl_C 65 [.ref n, .int p] h = some (some (some (.int (if fl_in p (g 0) = true ∧ g (4 + p.toNatClampNeg) = 8 then Int32.ofNat 1 else Int32.ofNat 0))), h) := by
  by_cases c : fl_in p (g 0) = true
  · obtain ⟨k, hk, rfl⟩ := fl_in_ex c
    have w1 := w.1
    rw [fc_65 hg nn w d hk, fl_nclamp (by omega)]
    by_cases e : g (4 + k) = 8
    · rw [if_pos e, if_pos ⟨c, e⟩]
    · rw [if_neg e, if_neg (fun z => e z.2)]
  · have e64 := fc_64 hg nn w d p
    rw [if_neg c] at e64
    rw [if_neg (fun z => c z.1), fbE_65]
    simp (disch := omega) only [hg.1, hg.2, nn.1, fl_lit, fl_nadd, fl_nmul, fl_ndiv, fl_nsub, fl_msub, fl_nle, fl_nlt, fl_neq, fl_nclamp, fl_nin, fl_ltT, fl_ltF, fl_leT, fl_leF, fl_eqT, fl_eqF, decide_true, decide_false, Bool.true_and, Bool.and_true, Bool.false_and, Bool.and_false, if_true, if_false, Bool.false_eq_true, Option.isSome_some, Option.getD_some, not_true_eq_false, not_false_eq_true, Option.toList_some, Option.toList_none, List.cons_append, List.nil_append, e64, fbP_65_5, fbC_65_25]
def fl_hok (g : Nat → Nat) (p : Int32) : Prop := fl_in p (g 0) = true ∧ g (4 + p.toNatClampNeg) = 8
def fl_hset (g : Nat → Nat) (k : Nat) : Int64 := fl_B (fun c => decide (c < 2 * (g 0 + g 2)) && decide (fl_chn g c k ≠ fl_hd g 64 (fl_ps g) (g 76) k))
theorem fl_neq2 {a b : Nat} (ha : a ≤ 2) (hb : b ≤ 2) : ((decide (a = 1) ^^ decide (b = 1)) || (decide (a = 0) ^^ decide (b = 0))) = decide (a ≠ b) := by
  rcases (show a = 0 ∨ a = 1 ∨ a = 2 by omega) with e | e | e <;> rcases (show b = 0 ∨ b = 1 ∨ b = 2 by omega) with e' | e' | e' <;> subst e <;> subst e' <;> rfl
theorem fo_holds_a {g : Nat → Nat} {s : Int64} (hg : fl_g k0 h) (w : fl_wf g) (d : fl_rn h 27 g s) (e1 : fl_i h 4 1 = Int32.ofNat 6) {k : Nat} (hk : k < g 0) (h8 : g (4 + k) = 8) : fl_cl fl_C 168 [.ref 0, .int (Int32.ofNat k)] h = some (some (some (.int (Int32.ofNat (fl_hd g 64 (fl_ps g) (g 76) k)))), fl_tc6 h 0 (fl_hset g k)) := by
  have O := fl_o27 (k0 := k0)
  have w1 := w.1
  have ok : fl_okp g (fl_ps g) (g 76) := fl_okp_g w
  have k12 : k < 12 := by omega
  have e65 := fc_65 hg O.2.1 w d.1 hk
  rw [if_pos h8] at e65
  have e166 := fc_166 hg O.2.2.1 k12
  have dv := d.2.2.2.2.2.2 k hk h8
  have gh := fl_hd_le (f := 64) w ok (g 76) (Nat.le_refl _) k hk
  have eS : ((fl_l h (27 + 14 + 10 + 6) k ^^^ fl_l h (27 + 14 + 1 + 6) k) ||| (fl_l h (27 + 14 + 10 + 8) k ^^^ fl_l h (27 + 14 + 1 + 8) k)) = fl_hset g k := by
    rw [dv.1.1, dv.1.2, dv.2.1, dv.2.2, fl_B_xor, fl_B_xor, fl_B_or]
    unfold fl_hset
    refine fl_B_congr fun c _ => ?_
    rw [fl_neq2 (fl_chn_le w c k hk) gh]
    by_cases cf : c < 2 * (g 0 + g 2)
    · rw [decide_eq_true cf, Bool.true_and]
    · rw [decide_eq_false cf, Bool.false_and]
      have : fl_chn g c = fl_hd g 64 (fl_ps g) (g 76) := if_neg cf
      rw [this]
      simp
  rw [eS] at e166
  have qt := fl_tc6_qo (h := h) (n := 0) (x := fl_hset g k)
  have t1 := fc_tell hg e1 (fl_hset g k)
  have hg1 := fl_qo_g hg qt
  have e167 := fc_167 hg1 O.2.2.1.2.1 k12 (show 0 < 64 by omega)
  rw [qt.2.2.2.1 (27 + 14 + 1 + 6) (by omega) (by omega), qt.2.2.2.1 (27 + 14 + 1 + 8) (by omega) (by omega), dv.1.1, dv.1.2, fl_hb_B _ (by omega), fl_hb_B _ (by omega), fl_tri gh] at e167
  have o27 : fl_KK k0 27 = (1, 7) ∧ fl_RR 27 0 = some (27 + 1) ∧ fl_RR 27 1 = some (27 + 14) := ⟨O.1.1, O.1.2.1, O.1.2.2.1⟩
  have o28 : fl_KK k0 (27 + 1) = (1, 4) := O.2.1.1.1
  have o41 : fl_KK k0 (27 + 14) = (1, 0) ∧ fl_RR (27 + 14) 0 = some (27 + 14 + 1) := ⟨O.2.2.1.1.1, O.2.2.1.1.2.1⟩
  have o42 : fl_KK k0 (27 + 14 + 1) = (1, 9) := O.2.2.1.2.1.1.1
  generalize fl_tc6 h 0 (fl_hset g k) = H1 at t1 hg1 e167 ⊢
  clear w w1 d dv qt ok eS
  rw [fbE_168]
  simp (disch := omega) only [hg.1, hg.2, hg1.1, hg1.2, fl_KF, fl_RF, o27, o28, o41, o42, fl_lit, fl_nadd, fl_nmul, fl_ndiv, fl_nsub, fl_msub, fl_nle, fl_nlt, fl_neq, fl_nclamp, fl_nin, fl_ltT, fl_ltF, fl_leT, fl_leF, fl_eqT, fl_eqF, decide_true, decide_false, Bool.true_and, Bool.and_true, Bool.false_and, Bool.and_false, if_true, if_false, Bool.false_eq_true, Option.isSome_some, Option.getD_some, not_true_eq_false, not_false_eq_true, Option.toList_some, Option.toList_none, List.cons_append, List.nil_append, e65, e166, t1, e167, fbP_168_11, fbP_168_28, fbP_168_31, fbP_168_46]
theorem fo_holds_n {g : Nat → Nat} {s : Int64} (hg : fl_g k0 h) (w : fl_wf g) (d : fl_rn h 27 g s) {p : Int32} (hp : ¬ fl_hok g p) : fl_cl fl_C 168 [.ref 0, .int p] h = some (some (some (.int (-Int32.ofNat 1))), h) := by
  have O := fl_o27 (k0 := k0)
  have e65 := fc_65' hg O.2.1 w d.1 p
  rw [if_neg (show ¬ (fl_in p (g 0) = true ∧ g (4 + p.toNatClampNeg) = 8) from hp)] at e65
  have o27 : fl_KK k0 27 = (1, 7) ∧ fl_RR 27 0 = some (27 + 1) := ⟨O.1.1, O.1.2.1⟩
  have o28 : fl_KK k0 (27 + 1) = (1, 4) := O.2.1.1.1
  clear w d
  rw [fbE_168]
  simp (disch := omega) only [hg.1, hg.2, fl_KF, fl_RF, o27, o28, fl_lit, fl_nadd, fl_nmul, fl_ndiv, fl_nsub, fl_msub, fl_nle, fl_nlt, fl_neq, fl_nclamp, fl_nin, fl_ltT, fl_ltF, fl_leT, fl_leF, fl_eqT, fl_eqF, decide_true, decide_false, Bool.true_and, Bool.and_true, Bool.false_and, Bool.and_false, if_true, if_false, Bool.false_eq_true, Option.isSome_some, Option.getD_some, not_true_eq_false, not_false_eq_true, Option.toList_some, Option.toList_none, List.cons_append, List.nil_append, e65, fbP_168_11, fbP_168_28, fbP_168_31, fbP_168_46]
theorem fo_holds_b {g : Nat → Nat} (hg : fl_g k0 h) (m : fl_mm h g) (w : fl_wf g) {k : Nat} (hk : k < g 0) (h8 : g (4 + k) = 8) : ∃ y, fl_cl fl_C 169 [.ref 259, .int (Int32.ofNat k)] h = some (some (some (.int (Int32.ofNat (fl_hd g 64 (fl_ps g) (g 76) k)))), fl_ae (fl_a0 y) 0 (fl_hset g k)) ∧ fl_qt h y := by
  have w1 := w.1
  have ok : fl_okp g (fl_ps g) (g 76) := fl_okp_g w
  have w7 : g 76 ≤ 24 := by omega
  have w0 : g 0 ≤ 12 := by omega
  have w2 : g 2 ≤ 20 := by omega
  have k12 : k < 12 := by omega
  have q0 := fl_qt_0 (h := h) (x := Int32.ofNat 0)
  have hg0 := fl_qo_g hg (fl_qt_qo q0)
  have m0 := fl_qo_mm m (fl_qt_qo q0)
  have e96 := fr_96 hg0 m0 w0 (Int32.ofNat k)
  rw [fl_nin (by omega), decide_eq_true hk, if_pos rfl] at e96
  have e97 := fr_97 hg0 m0 w.2.2.2.2.2.2.2.2.1 k12
  rw [if_pos h8] at e97
  obtain ⟨r, y, e141, rfl, ay⟩ := fr_141 hg0 m0 w
  have qy := fl_qt_tr q0 (fl_qt_all ay)
  have gy := fl_qo_g hg (fl_qt_qo qy)
  have my := fl_qo_mm m (fl_qt_qo qy)
  have e88 := fr_88 gy my
  have gd : fl_i y 270 k = Int32.ofNat (fl_hd g 64 (fl_ps g) (g 76) k) := ay.2.2.2.1.2 k hk
  have g2 := fl_hd_le (f := 64) w ok (g 76) (Nat.le_refl _) k hk
  have g2' : fl_hd g 64 (fl_ps g) (g 76) k ≤ 2 := g2
  have lp := fl_iter (fun f => fl_Rn fl_C 169 32 [some (.ref 259), some (.int (Int32.ofNat k)), some (.long (fl_bs (fun c => decide (fl_chn g c k ≠ fl_hd g 64 (fl_ps g) (g 76) k)) f)), none, some (.int (Int32.ofNat f))] [] y) (2 * (g 0 + g 2)) (by
    intro f hf
    try dsimp only
    have f64 : f < 64 := by omega
    have rf := ay.2.2.2.2 f hf
    have r3 : fl_i y 273 f = fl_oi (fl_any (fl_dr g f (fl_ps g)) (g 76)) (fl_frst (fl_dr g f (fl_ps g)) (g 76)) := rf.2.2.1
    have r5 : fl_i y 275 (12 * f + k) = Int32.ofNat (fl_fhd g f (fl_ps g) (g 76) k) := rf.2.2.2.2 k hk
    have ch : fl_chn g f = fl_fhd g f (fl_ps g) (g 76) := if_pos hf
    have f2 := fl_chn_le w f k hk
    have fl := fl_frst_le (q := fl_dr g f (fl_ps g)) (g 76)
    have hz := fl_oi_le (b := fl_any (fl_dr g f (fl_ps g)) (g 76)) (t := fl_frst (fl_dr g f (fl_ps g)) (g 76)) (by omega)
    have hdr : fl_any (fl_dr g f (fl_ps g)) (g 76) = true → fl_fhd g f (fl_ps g) (g 76) = fl_hd g 64 (fl_ps g) (g 76) := fun z => if_pos z
    rw [ch] at f2
    have b1 : fl_fhd g f (fl_ps g) (g 76) k < 2147483648 := by omega
    clear w w1 m m0 ay rf my ok
    rw [fbC_169_32, fl_bs, ch]
    rcases Bool.eq_false_or_eq_true (fl_any (fl_dr g f (fl_ps g)) (g 76)) with z | z
    · rw [z] at r3 hz
      rw [hdr z]
      simp (disch := omega) only [gy.1, gy.2, fl_KM, fl_RM, fl_lit, fl_nadd, fl_nmul, fl_ndiv, fl_nsub, fl_msub, fl_nle, fl_nlt, fl_neq, fl_nclamp, fl_nin, fl_ltT, fl_ltF, fl_leT, fl_leF, fl_eqT, fl_eqF, decide_true, decide_false, Bool.true_and, Bool.and_true, Bool.false_and, Bool.and_false, if_true, if_false, Bool.false_eq_true, Option.isSome_some, Option.getD_some, not_true_eq_false, not_false_eq_true, Option.toList_some, Option.toList_none, List.cons_append, List.nil_append, e88, r3, hz, gd, r5, hdr z, ne_eq, fbC_169_5, fbC_169_21, fbC_169_63, fbC_169_94, fbP_169_10, fbP_169_38, fbP_169_99, fbP_169_18, fbP_169_27]
    · rw [z] at r3 hz
      by_cases e : fl_fhd g f (fl_ps g) (g 76) k = fl_hd g 64 (fl_ps g) (g 76) k
      · simp (disch := omega) only [gy.1, gy.2, fl_KM, fl_RM, fl_lit, fl_nadd, fl_nmul, fl_ndiv, fl_nsub, fl_msub, fl_nle, fl_nlt, fl_neq, fl_nclamp, fl_nin, fl_ltT, fl_ltF, fl_leT, fl_leF, fl_eqT, fl_eqF, decide_true, decide_false, Bool.true_and, Bool.and_true, Bool.false_and, Bool.and_false, if_true, if_false, Bool.false_eq_true, Option.isSome_some, Option.getD_some, not_true_eq_false, not_false_eq_true, Option.toList_some, Option.toList_none, List.cons_append, List.nil_append, e88, r3, hz, gd, r5, e, ne_eq, fbC_169_5, fbC_169_21, fbC_169_63, fbC_169_94, fbP_169_10, fbP_169_38, fbP_169_99, fbP_169_18, fbP_169_27]
      · simp (disch := omega) only [gy.1, gy.2, fl_KM, fl_RM, fl_lit, fl_nadd, fl_nmul, fl_ndiv, fl_nsub, fl_msub, fl_nle, fl_nlt, fl_neq, fl_nclamp, fl_nin, fl_ltT, fl_ltF, fl_leT, fl_leF, fl_eqT, fl_eqF, decide_true, decide_false, Bool.true_and, Bool.and_true, Bool.false_and, Bool.and_false, if_true, if_false, Bool.false_eq_true, Option.isSome_some, Option.getD_some, not_true_eq_false, not_false_eq_true, Option.toList_some, Option.toList_none, List.cons_append, List.nil_append, e88, r3, hz, gd, r5, ne_eq, eq_false e, fbC_169_5, fbC_169_21, fbC_169_63, fbC_169_94, fbP_169_10, fbP_169_38, fbP_169_99, fbP_169_18, fbP_169_27])
  have eS : fl_bs (fun c => decide (fl_chn g c k ≠ fl_hd g 64 (fl_ps g) (g 76) k)) (2 * (g 0 + g 2)) = fl_hset g k := fl_bs_F (by omega)
  rw [eS] at lp
  have t0 : fl_cl fl_C 143 [.ref 259, .long (fl_hset g k)] (fl_a0 y) = some (some none, fl_ae (fl_a0 y) 0 (fl_hset g k)) := fr_143 (fl_qo_g gy fl_a0_qo) (by omega) fl_a0_n _
  have gz := fl_qo_g gy (fl_a0_qo (h := y))
  have g1 := fl_qo_g gz (fl_ae_qo (h := fl_a0 y) (n := 0) (x := fl_hset g k))
  have zb : fl_i (fl_ae (fl_a0 y) 0 (fl_hset g k)) 270 k = Int32.ofNat (fl_hd g 64 (fl_ps g) (g 76) k) := by
    unfold fl_ae
    rw [fl_i_wi, if_neg (by omega), fl_i_wl]
    unfold fl_a0
    rw [fl_i_wi, if_neg (by omega), gd]
  have ea : fl_wi y 259 (fl_up (fl_i y 259) 1 (Int32.ofNat 0)) = fl_a0 y := rfl
  refine ⟨y, ?_, qy⟩
  generalize fl_ae (fl_a0 y) 0 (fl_hset g k) = H1 at t0 g1 zb ⊢
  have st : fl_Rn fl_C 169 32 [some (.ref 259), some (.int (Int32.ofNat k)), some (.long (fl_hset g k)), none, some (.int (Int32.ofNat (2 * (g 0 + g 2))))] [] y = some (some (some (.int (Int32.ofNat (fl_hd g 64 (fl_ps g) (g 76) k)))), H1) := by
    clear w w1 m m0 ay my ok lp
    rw [fbC_169_32]
    simp (disch := omega) only [fl_k_wl, fl_r_wl, fl_i_wl, fl_l_wl, fl_1_wl, fl_k_wi, fl_r_wi, fl_l_wi, fl_1_wi, fl_i_wi, fl_k_si, fl_r_si, fl_l_si, fl_k_sl, fl_r_sl, fl_i_sl, fl_up_self, fl_up_ne, fl_si_wi, fl_sl_wl, fl_wi_wi, fl_wl_wl, gy.1, gy.2, gz.1, gz.2, g1.1, g1.2, fl_KM, fl_RM, fl_lit, fl_nadd, fl_nmul, fl_ndiv, fl_nsub, fl_msub, fl_nle, fl_nlt, fl_neq, fl_nclamp, fl_nin, fl_ltT, fl_ltF, fl_leT, fl_leF, fl_eqT, fl_eqF, decide_true, decide_false, Bool.true_and, Bool.and_true, Bool.false_and, Bool.and_false, if_true, if_false, Bool.false_eq_true, Option.isSome_some, Option.getD_some, not_true_eq_false, not_false_eq_true, Option.toList_some, Option.toList_none, List.cons_append, List.nil_append, e88, ea, t0, zb, fbC_169_5, fbC_169_21, fbC_169_63, fbC_169_94, fbP_169_10, fbP_169_38, fbP_169_99, fbP_169_18, fbP_169_27]
  rw [fbE_169]
  have lp' := lp.trans st
  clear w w1 m m0 ay my ok lp st
  simp (disch := omega) only [fl_k_wl, fl_r_wl, fl_i_wl, fl_l_wl, fl_1_wl, fl_k_wi, fl_r_wi, fl_l_wi, fl_1_wi, fl_i_wi, fl_k_si, fl_r_si, fl_l_si, fl_k_sl, fl_r_sl, fl_i_sl, fl_up_self, fl_up_ne, fl_si_wi, fl_sl_wl, fl_wi_wi, fl_wl_wl, hg.1, hg.2, fl_KM, fl_RM, fl_lit, fl_nadd, fl_nmul, fl_ndiv, fl_nsub, fl_msub, fl_nle, fl_nlt, fl_neq, fl_nclamp, fl_nin, fl_ltT, fl_ltF, fl_leT, fl_leF, fl_eqT, fl_eqF, decide_true, decide_false, Bool.true_and, Bool.and_true, Bool.false_and, Bool.and_false, if_true, if_false, Bool.false_eq_true, Option.isSome_some, Option.getD_some, not_true_eq_false, not_false_eq_true, Option.toList_some, Option.toList_none, List.cons_append, List.nil_append, e96, e97, e141, fbC_169_5, fbC_169_21, fbC_169_63, fbC_169_94, fbP_169_10, fbP_169_38, fbP_169_99, fbP_169_18, fbP_169_27]
  exact lp'
theorem fo_holds_bn {g : Nat → Nat} (hg : fl_g k0 h) (m : fl_mm h g) (w : fl_wf g) {p : Int32} (hp : ¬ fl_hok g p) : ∃ y, fl_cl fl_C 169 [.ref 259, .int p] h = some (some (some (.int (-Int32.ofNat 1))), y) ∧ fl_qt h y := by
  have w1 := w.1
  have w0 : g 0 ≤ 12 := by omega
  have q0 := fl_qt_0 (h := h) (x := Int32.ofNat 0)
  have hg0 := fl_qo_g hg (fl_qt_qo q0)
  have m0 := fl_qo_mm m (fl_qt_qo q0)
  have e96 := fr_96 hg0 m0 w0 p
  refine ⟨_, ?_, q0⟩
  by_cases c0 : fl_in p (g 0) = true
  · rw [if_pos c0] at e96
    obtain ⟨k, hk, rfl⟩ := fl_in_ex c0
    have h8 : ¬ g (4 + k) = 8 := fun z => hp ⟨c0, by rw [fl_nclamp (by omega)]; exact z⟩
    have e97 := fr_97 hg0 m0 w.2.2.2.2.2.2.2.2.1 (show k < 12 by omega)
    rw [if_neg h8] at e97
    clear w w1 m m0
    rw [fbE_169]
    simp (disch := omega) only [fl_k_wl, fl_r_wl, fl_i_wl, fl_l_wl, fl_1_wl, fl_k_wi, fl_r_wi, fl_l_wi, fl_1_wi, fl_i_wi, fl_k_si, fl_r_si, fl_l_si, fl_k_sl, fl_r_sl, fl_i_sl, fl_up_self, fl_up_ne, fl_si_wi, fl_sl_wl, fl_wi_wi, fl_wl_wl, hg.1, hg.2, fl_KM, fl_RM, fl_lit, fl_nadd, fl_nmul, fl_ndiv, fl_nsub, fl_msub, fl_nle, fl_nlt, fl_neq, fl_nclamp, fl_nin, fl_ltT, fl_ltF, fl_leT, fl_leF, fl_eqT, fl_eqF, decide_true, decide_false, Bool.true_and, Bool.and_true, Bool.false_and, Bool.and_false, if_true, if_false, Bool.false_eq_true, Option.isSome_some, Option.getD_some, not_true_eq_false, not_false_eq_true, Option.toList_some, Option.toList_none, List.cons_append, List.nil_append, e96, e97, fbC_169_5, fbC_169_21, fbC_169_63, fbC_169_94, fbP_169_10, fbP_169_38, fbP_169_99, fbP_169_18, fbP_169_27]
  · rw [if_neg c0] at e96
    clear w w1 m m0
    rw [fbE_169]
    simp (disch := omega) only [fl_k_wl, fl_r_wl, fl_i_wl, fl_l_wl, fl_1_wl, fl_k_wi, fl_r_wi, fl_l_wi, fl_1_wi, fl_i_wi, fl_k_si, fl_r_si, fl_l_si, fl_k_sl, fl_r_sl, fl_i_sl, fl_up_self, fl_up_ne, fl_si_wi, fl_sl_wl, fl_wi_wi, fl_wl_wl, hg.1, hg.2, fl_KM, fl_RM, fl_lit, fl_nadd, fl_nmul, fl_ndiv, fl_nsub, fl_msub, fl_nle, fl_nlt, fl_neq, fl_nclamp, fl_nin, fl_ltT, fl_ltF, fl_leT, fl_leF, fl_eqT, fl_eqF, decide_true, decide_false, Bool.true_and, Bool.and_true, Bool.false_and, Bool.and_false, if_true, if_false, Bool.false_eq_true, Option.isSome_some, Option.getD_some, not_true_eq_false, not_false_eq_true, Option.toList_some, Option.toList_none, List.cons_append, List.nil_append, e96, fbC_169_5, fbC_169_21, fbC_169_63, fbC_169_94, fbP_169_10, fbP_169_38, fbP_169_99, fbP_169_18, fbP_169_27]
theorem fo_holds (I : fl_Inv k0 c h) (p : Int32) : fl_both k0 c 168 169 [.int p] [.int p] h := by
  obtain ⟨rn, rv, iO⟩ := I.2.2.2.1
  obtain ⟨g, g1, g2, b1, b2, s, s1, s2, iG⟩ := I.2.2.2.2.2
  by_cases hp : fl_hok g p
  · obtain ⟨k, hk, rfl⟩ := fl_in_ex hp.1
    have w1 := iG.1.1
    have h8 : g (4 + k) = 8 := by
      have := hp.2
      rw [fl_nclamp (by omega)] at this
      exact this
    have a := fo_holds_a I.1 iG.1 iG.2.2.2.1 iO.2.2.1 hk h8
    have q1 := fl_tc6_qo (h := h) (n := 0) (x := fl_hset g k)
    obtain ⟨y, e, q⟩ := fo_holds_b (fl_qo_g I.1 q1) (fl_qo_mm iG.2.1 q1) iG.1 hk h8
    refine ⟨_, _, _, a, e, ?_⟩
    refine fl_Inv_qo I (fl_qo_tr q1 (fl_qo_tr (fl_qt_qo q) (fl_qo_tr fl_a0_qo fl_ae_qo))) (n := 1) (rv := fun _ => fl_hset g k) (by omega) fl_ae_n ?_ (fun j hj => ?_)
    · rw [fl_ae_4]; unfold fl_a0; rw [fl_i_wi, if_neg (by omega), q.2.2.2.2 4 2 (by omega), fl_tc6_n]
    · have : j = 0 := by omega
      subst this
      rw [fl_ae_l, fl_up_self, fl_ae_l2]
      unfold fl_a0
      rw [fl_l_wi, q.2.2.2.1, fl_tc6_l, fl_up_self]
      exact ⟨rfl, rfl⟩
  · have a := fo_holds_n I.1 iG.1 iG.2.2.2.1 hp
    obtain ⟨y, e, q⟩ := fo_holds_bn I.1 iG.2.1 iG.1 hp
    exact ⟨_, h, _, a, e, fl_Inv_qt I q⟩
end
