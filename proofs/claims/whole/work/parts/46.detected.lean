/-! detected -/
section
variable {k0 : Nat → Nat × Nat} {h : fl_H} {c : Nat × Nat × Nat × Bool}
/-- the sets of the reference are the class's -/
theorem fl_bs_F {q : Nat → Bool} {F : Nat} (hF : F ≤ 64) : fl_bs q F = fl_B (fun c => decide (c < F) && q c) := fl_B_bs q hF
theorem fo_det_a {g : Nat → Nat} {s : Int64} (hg : fl_g k0 h) (d : fl_rn h 27 g s) (e1 : fl_i h 4 1 = Int32.ofNat 6) : fl_cl fl_C 170 [.ref 0] h = some (some (some (.int (Int32.ofNat (fl_cnt (fl_hb (fl_l h 27 5)) 64)))), fl_tc6 (fl_tc6 h 0 (fl_l h 27 5)) 1 (fl_l h 27 6)) := by
  have t1 := fc_tell hg e1 (fl_l h 27 5)
  have hg1 := fl_qo_g hg (fl_tc6_qo (h := h) (n := 0) (x := fl_l h 27 5))
  have l27 : fl_l (fl_tc6 h 0 (fl_l h 27 5)) 27 = fl_l h 27 := fl_tc6_qo.2.2.2.1 27 (by omega) (by omega)
  have t2 := fc_add hg1 (n := 1) (by omega) (by rw [fl_tc6_r]; exact e1) fl_tc6_n (fl_l h 27 6)
  have hg2 := fl_qo_g hg1 (fl_tc6_qo (h := fl_tc6 h 0 (fl_l h 27 5)) (n := 1) (x := fl_l h 27 6))
  have l27' : fl_l (fl_tc6 (fl_tc6 h 0 (fl_l h 27 5)) 1 (fl_l h 27 6)) 27 = fl_l h 27 := (fl_tc6_qo.2.2.2.1 27 (by omega) (by omega)).trans l27
  have b := fc_126 (h := fl_tc6 (fl_tc6 h 0 (fl_l h 27 5)) 1 (fl_l h 27 6)) (fl_l h 27 5)
  have o27 : fl_KK k0 27 = (1, 7) := fl_o27.1.1
  have o4 : fl_KK k0 4 = (1, 5) := fl_o4.1.1
  generalize fl_tc6 (fl_tc6 h 0 (fl_l h 27 5)) 1 (fl_l h 27 6) = H2 at t2 hg2 l27' b ⊢
  generalize fl_tc6 h 0 (fl_l h 27 5) = H1 at t1 hg1 l27 t2
  clear d
  rw [fbE_170]
  simp (disch := omega) only [hg.1, hg.2, hg1.1, hg1.2, hg2.1, hg2.2, fl_KF, fl_RF, o27, o4, fl_lit, fl_nadd, fl_nmul, fl_ndiv, fl_nsub, fl_msub, fl_nle, fl_nlt, fl_neq, fl_nclamp, fl_nin, fl_ltT, fl_ltF, fl_leT, fl_leF, fl_eqT, fl_eqF, decide_true, decide_false, Bool.true_and, Bool.and_true, Bool.false_and, Bool.and_false, if_true, if_false, Bool.false_eq_true, Option.isSome_some, Option.getD_some, not_true_eq_false, not_false_eq_true, Option.toList_some, Option.toList_none, List.cons_append, List.nil_append, t1, fbP_170_11, l27, t2, fbP_170_25, l27', b, fbP_170_35]
theorem fo_det_b {g : Nat → Nat} (hg : fl_g k0 h) (m : fl_mm h g) (w : fl_wf g) : ∃ h2 A B, fl_cl fl_C 171 [.ref 259] h = some (some (some (.int (Int32.ofNat (fl_cnt (fl_hb A) 64)))), h2) ∧ fl_qo h h2 ∧ A = fl_bs (fun f => fl_any (fl_shn g f (fl_ps g)) (g 76)) (2 * (g 0 + g 2)) ∧ B = fl_bs (fun f => fl_any (fl_dr g f (fl_ps g)) (g 76)) (2 * (g 0 + g 2)) ∧ fl_i h2 259 1 = Int32.ofNat 2 ∧ fl_l h2 260 0 = A ∧ fl_l h2 260 1 = B ∧ fl_i h2 4 = fl_i h 4 ∧ fl_l h2 6 = fl_l h 6 := by
  have q0 := fl_qt_0 (h := h) (x := Int32.ofNat 0)
  obtain ⟨r, y, e141, rfl, ay⟩ := fr_141 (fl_qo_g hg (fl_qt_qo q0)) (fl_qo_mm m (fl_qt_qo q0)) w
  have qy : fl_qo h y := fl_qt_qo (fl_qt_tr q0 (fl_qt_all ay))
  have rf := ay.2.2.2.2
  have w7 : g 76 ≤ 24 := w.1.2.2.2.2.2.2.2.1
  -- told = 0
  have qz : fl_qo h (fl_a0 y) := fl_qo_tr qy fl_a0_qo
  have hz : ∀ {z : fl_H}, (∀ q, q = 271 ∨ q = 273 → fl_i z q = fl_i y q) → fl_qo h z → fl_cl fl_C 142 [.ref 259] z = some (some (some (.long (fl_bs (fun f => fl_any (fl_shn g f (fl_ps g)) (g 76)) (2 * (g 0 + g 2))))), z) ∧ fl_cl fl_C 155 [.ref 259] z = some (some (some (.long (fl_bs (fun f => fl_any (fl_dr g f (fl_ps g)) (g 76)) (2 * (g 0 + g 2))))), z) := by
    intro z ez qz
    refine ⟨fr_142 (fl_qo_g hg qz) (fl_qo_mm m qz) w (t := fun f => fl_frst (fl_shn g f (fl_ps g)) (g 76)) (fun f => ?_) (fun f hf => ?_), fr_155 (fl_qo_g hg qz) (fl_qo_mm m qz) w (t := fun f => fl_frst (fl_dr g f (fl_ps g)) (g 76)) (fun f => ?_) (fun f hf => ?_)⟩
    · have := fl_frst_le (q := fl_shn g f (fl_ps g)) (g 76); omega
    · rw [ez 271 (Or.inl rfl)]; exact (rf f hf).1
    · have := fl_frst_le (q := fl_dr g f (fl_ps g)) (g 76); omega
    · rw [ez 273 (Or.inr rfl)]; exact (rf f hf).2.2.1
  generalize fl_bs (fun f => fl_any (fl_shn g f (fl_ps g)) (g 76)) (2 * (g 0 + g 2)) = A at hz ⊢
  generalize fl_bs (fun f => fl_any (fl_dr g f (fl_ps g)) (g 76)) (2 * (g 0 + g 2)) = B at hz ⊢
  have a0i : ∀ q, q = 271 ∨ q = 273 → fl_i (fl_a0 y) q = fl_i y q := fun q hq => by unfold fl_a0; rw [fl_i_wi, if_neg (by omega)]
  have aei : ∀ (z : fl_H) n x q, q = 271 ∨ q = 273 → fl_i (fl_ae z n x) q = fl_i z q := fun z n x q hq => by unfold fl_ae; rw [fl_i_wi, if_neg (by omega), fl_i_wl]
  have q1 : fl_qo h (fl_ae (fl_a0 y) 0 A) := fl_qo_tr qz fl_ae_qo
  have q2 : fl_qo h (fl_ae (fl_ae (fl_a0 y) 0 A) 1 B) := fl_qo_tr q1 fl_ae_qo
  have s0 := (hz a0i qz).1
  have s1 := (hz (fun q hq => (aei _ _ _ q hq).trans (a0i q hq)) q1).2
  have s2 := (hz (fun q hq => (aei _ _ _ q hq).trans ((aei _ _ _ q hq).trans (a0i q hq))) q2).1
  have t0 : fl_cl fl_C 143 [.ref 259, .long A] (fl_a0 y) = some (some none, fl_ae (fl_a0 y) 0 A) := fr_143 (fl_qo_g hg qz) (by omega) fl_a0_n A
  have t1 : fl_cl fl_C 143 [.ref 259, .long B] (fl_ae (fl_a0 y) 0 A) = some (some none, fl_ae (fl_ae (fl_a0 y) 0 A) 1 B) := fr_143 (fl_qo_g hg q1) (by omega) fl_ae_n B
  have b := fr_144 (h := fl_ae (fl_ae (fl_a0 y) 0 A) 1 B) A
  have gy := fl_qo_g hg qy
  have gz := fl_qo_g hg qz
  have g1 := fl_qo_g hg q1
  have g2 := fl_qo_g hg q2
  have y4 : fl_i y 4 = fl_i h 4 := (ay.1.2.2.2.2 4 (by omega)).trans (by rw [fl_i_wi, if_neg (by omega)])
  have y6 : fl_l y 6 = fl_l h 6 := ay.1.2.2.2.1.trans (by rw [fl_l_wi]) ▸ rfl
  refine ⟨fl_ae (fl_ae (fl_a0 y) 0 A) 1 B, A, B, ?_, q2, rfl, rfl, fl_ae_n, ?_, ?_, ?_, ?_⟩
  · have ea : fl_wi y 259 (fl_up (fl_i y 259) 1 (Int32.ofNat 0)) = fl_a0 y := rfl
    have hgq := fl_qo_g hg (fl_qt_qo q0)
    clear hz rf ay a0i aei m w q1 q2 qz qy q0 y4 y6
    generalize fl_ae (fl_ae (fl_a0 y) 0 A) 1 B = H2 at *
    generalize fl_ae (fl_a0 y) 0 A = H1 at *
    rw [fbE_171]
    simp (disch := omega) only [fl_k_wl, fl_r_wl, fl_i_wl, fl_l_wl, fl_1_wl, fl_k_wi, fl_r_wi, fl_l_wi, fl_1_wi, fl_i_wi, fl_k_si, fl_r_si, fl_l_si, fl_k_sl, fl_r_sl, fl_i_sl, fl_up_self, fl_up_ne, fl_si_wi, fl_sl_wl, fl_wi_wi, fl_wl_wl, hg.1, hg.2, fl_KM, fl_RM, fl_lit, fl_nadd, fl_nmul, fl_ndiv, fl_nsub, fl_msub, fl_nle, fl_nlt, fl_neq, fl_nclamp, fl_nin, fl_ltT, fl_ltF, fl_leT, fl_leF, fl_eqT, fl_eqF, decide_true, decide_false, Bool.true_and, Bool.and_true, Bool.false_and, Bool.and_false, if_true, if_false, Bool.false_eq_true, Option.isSome_some, Option.getD_some, not_true_eq_false, not_false_eq_true, Option.toList_some, Option.toList_none, List.cons_append, List.nil_append, fbC_171_5, e141, gy.1, gy.2, ea, fbP_171_9, gz.1, gz.2, fbC_171_14, s0, fbP_171_19, t0, g1.1, g1.2, fbP_171_22, s1, fbP_171_27, t1, g2.1, g2.2, fbP_171_30, s2, fbP_171_34, b, fbP_171_37]
  · rw [fl_ae_l, fl_up_ne (by omega), fl_ae_l, fl_up_self]
  · rw [fl_ae_l, fl_up_self]
  · rw [fl_ae_4, fl_ae_4]; unfold fl_a0; rw [fl_i_wi, if_neg (by omega), y4]
  · rw [fl_ae_l2, fl_ae_l2]; unfold fl_a0; rw [fl_l_wi, y6]
theorem fo_detected (I : fl_Inv k0 c h) : fl_both k0 c 170 171 [] [] h := by
  obtain ⟨rn, rv, iO⟩ := I.2.2.2.1
  obtain ⟨g, g1, g2, b1, b2, s, s1, s2, iG⟩ := I.2.2.2.2.2
  have hg := I.1
  have w := iG.1
  have d := iG.2.2.2.1
  have w0 : g 0 ≤ 12 := w.1.2.2.2.1
  have w2 : g 2 ≤ 20 := w.1.2.2.2.2.1
  have a := fo_det_a hg d iO.2.2.1
  have q1 : fl_qo h (fl_tc6 (fl_tc6 h 0 (fl_l h 27 5)) 1 (fl_l h 27 6)) := fl_qo_tr fl_tc6_qo fl_tc6_qo
  obtain ⟨h2, A, B, b, q2, eA, eB, n2, l0, l1, i4, l6⟩ := fo_det_b (fl_qo_g hg q1) (fl_qo_mm iG.2.1 q1) w
  have cA : fl_l h 27 5 = A := by rw [d.2.2.1.1, eA, fl_bs_F (by omega)]
  have cB : fl_l h 27 6 = B := by rw [d.2.2.1.2.1, eB, fl_bs_F (by omega)]
  refine ⟨_, _, h2, a, by rw [cA]; rw [cA] at b; exact b, ?_⟩
  refine fl_Inv_qo I (fl_qo_tr q1 q2) (n := 2) (rv := fun j => if j = 0 then A else B) (by omega) n2 (by rw [i4]; exact fl_tc6_n) (fun j hj => ?_)
  rw [l6]
  rcases (show j = 0 ∨ j = 1 by omega) with e | e
  · subst e
    rw [l0, if_pos rfl, fl_tc6_l, fl_up_ne (by omega), fl_tc6_l, fl_up_self]
    exact ⟨rfl, cA⟩
  · subst e
    rw [l1, if_neg (by omega), fl_tc6_l, fl_up_self]
    exact ⟨rfl, cB⟩
end
