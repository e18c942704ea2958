/-! A SEARCH, the reference's side: a step -/
section
variable {k0 : Nat → Nat × Nat} {h : fl_H} {g ρ : Nat → Nat} {S : fl_Se}
/-- the two ticks of a step -/
theorem fr_225t (hg : fl_g k0 h) (m : fl_mm h g) (w : fl_wf g) (I : fl_rq h g S) (J : fl_J0 g S) {i f n : Nat} (hi : i < S.1) (hf : f < 2 * (g 0 + g 2)) (hn : n < 2 ^ g 1) (d6 : (S.2.1 i).2.2.1 < 6) : ∃ y, fl_Rn fl_C 225 53 [some (.ref 259), some (.int (Int32.ofNat f)), some (.int (Int32.ofNat i)), some (.int (Int32.ofNat n))] [] h = fl_ca fl_C 225 163 [some (.ref 259), some (.int (Int32.ofNat f)), some (.int (Int32.ofNat i)), some (.int (Int32.ofNat n)), some (.int (Int32.ofNat (fl_cr g (fl_nxt g 64 n (S.2.1 i).1))))] [] [] (some (some (some (.int (fl_bi (fl_sq g (fl_vv g 64 n (S.2.1 i).1) (fl_vv g f n (S.2.1 i).2.1)) (fun o => g (72 + o)) (g 3)))), y)) ∧ fl_df (fun q _ => q = 266 ∨ q = 267 ∨ q = 269) h y ∧ ∀ k, k < g 0 → fl_i y 267 k = Int32.ofNat (fl_nxt g f n (S.2.1 i).2.1 k) := by
  have w0 : g 0 ≤ 12 := w.1.2.2.2.1
  have w2 : g 2 ≤ 20 := w.1.2.2.2.2.1
  have w4 : g 1 ≤ 4 := w.1.2.1
  have p16 := fl_p2 w4
  have sh := fl_sh1 (g 1) (by omega)
  have s729 := fl_J_729 J
  have r := J.2.2.1 i hi
  have c := I.2 i hi
  have c1 := c.1
  have c2 := c.2.1
  have lt1 := fl_cr_lt w r.1
  have lt2 := fl_cr_lt w r.2
  have hrp : fl_rp g (S.2.1 i) = 27 * fl_cr g (S.2.1 i).1 + fl_cr g (S.2.1 i).2.1 := rfl
  have e129 := fr_129 hg m
  have p := fl_pn_ok (n := n) w4
  obtain ⟨y1, e1, d1, r1⟩ := fr_221 hg m w r.1
  have g1 := fl_df_g hg d1
  have m1 : fl_mm y1 g := fl_mm_df m d1 (fun j => by omega)
  have e222 := fr_222 g1 w m1 (n := n) (by omega)
  have e2 := fr_137 g1 m1 w p.1 p.2 64 r.1 r1
  rw [show fl_fi 64 = -Int32.ofNat 1 from by decide] at e2
  have d2 : fl_df (fun q _ => q = 266 ∨ q = 267 ∨ q = 269) y1 (fl_tk y1 g 64 (fl_pn (g 1) n) (S.2.1 i).1) := fl_df_fx fl_tk_fx (fun q j z => by omega)
  have v2 := fun k (hk : k < g 0) => fl_tk_val (h := y1) (f := 64) (pt := fl_pn (g 1) n) (hd := (S.2.1 i).1) hk
  have h2 := fun k (hk : k < g 0) => fl_tk_hold (h := y1) (f := 64) (pt := fl_pn (g 1) n) (hd := (S.2.1 i).1) hk
  generalize fl_tk y1 g 64 (fl_pn (g 1) n) (S.2.1 i).1 = y2 at *
  have g2 := fl_df_g g1 d2
  have m2 : fl_mm y2 g := fl_mm_df m1 d2 (fun j => by omega)
  obtain ⟨y3, e3, d3, v3⟩ := fr_225g g2 m2 w (Int32.ofNat f) (Int32.ofNat i) (Int32.ofNat n)
  have g3 := fl_df_g g2 d3
  have m3 : fl_mm y3 g := fl_mm_df m2 d3 (fun j => by omega)
  have e95 := fr_95 g3 m3
  have e220 := fr_220 (ρ := fl_nxt g 64 n (S.2.1 i).1) g3 m3 w (fun k hk _ => by rw [(d3.2.2.2 267 k (by omega)).1]; exact h2 k hk)
  have d03 : fl_df (fun q _ => q = 266 ∨ q = 267 ∨ q = 269) h y3 := fl_df_tr (fl_df_mo d1 (fun q j z => by omega)) (fl_df_tr d2 (fl_df_mo d3 (fun q j z => by omega)))
  have c1' : fl_i y3 277 i = Int32.ofNat (fl_rp g (S.2.1 i)) := by rw [(d03.2.2.2 277 i (by omega)).1]; exact c1
  obtain ⟨y4, e4, d4, r4⟩ := fr_221 g3 m3 w r.2
  have g4 := fl_df_g g3 d4
  have m4 : fl_mm y4 g := fl_mm_df m3 d4 (fun j => by omega)
  have e222' := fr_222 g4 w m4 (n := n) (by omega)
  have e5 := fr_137 g4 m4 w p.1 p.2 f r.2 r4
  rw [show fl_fi f = Int32.ofNat f from if_pos (by omega)] at e5
  have d5 : fl_df (fun q _ => q = 266 ∨ q = 267) y4 (fl_tk y4 g f (fl_pn (g 1) n) (S.2.1 i).2.1) := fl_df_fx fl_tk_fx (fun q j z => z)
  have v5 := fun k (hk : k < g 0) => fl_tk_val (h := y4) (f := f) (pt := fl_pn (g 1) n) (hd := (S.2.1 i).2.1) hk
  have h5 := fun k (hk : k < g 0) => fl_tk_hold (h := y4) (f := f) (pt := fl_pn (g 1) n) (hd := (S.2.1 i).2.1) hk
  generalize fl_tk y4 g f (fl_pn (g 1) n) (S.2.1 i).2.1 = y5 at *
  have g5 := fl_df_g g4 d5
  have m5 : fl_mm y5 g := fl_mm_df m4 d5 (fun j => by omega)
  have e139 := fr_139 g5 m5 w (t := 0) (by omega) (fl_vv_le w (f := 64) (n := n) r.1) (fl_vv_le w (f := f) (n := n) r.2) (fun k hk => by
    rw [Nat.mul_zero, Nat.zero_add, (d5.2.2.2 269 k (by omega)).1, (d4.2.2.2 269 k (by omega)).1, v3 k hk]
    exact v2 k hk) (fun k hk => v5 k hk)
  refine ⟨y5, ?_, fl_df_tr d03 (fl_df_tr (fl_df_mo d4 (fun q j z => by omega)) (fl_df_mo d5 (fun q j z => by omega))), fun k hk => h5 k hk⟩
  have x1 : fl_rp g (S.2.1 i) / 27 = fl_cr g (S.2.1 i).1 := by omega
  have x2 : fl_rp g (S.2.1 i) - fl_cr g (S.2.1 i).1 * 27 = fl_cr g (S.2.1 i).2.1 := by omega
  have lt3 : fl_rp g (S.2.1 i) < 729 := by omega
  clear m w I J r c d1 m1 r1 d2 m2 d3 m3 d03 d4 m4 r4 d5 m5 v2 h2 v3 v5 h5 p hrp
  generalize fl_rp g (S.2.1 i) = P at *
  generalize fl_cr g (S.2.1 i).1 = P1 at *
  generalize fl_cr g (S.2.1 i).2.1 = P2 at *
  generalize fl_pn (g 1) n = PN at *
  generalize fl_cr g (fl_nxt g 64 n (S.2.1 i).1) = P3 at *
  generalize fl_bi (fl_sq g (fl_vv g 64 n (S.2.1 i).1) (fl_vv g f n (S.2.1 i).2.1)) (fun o => g (72 + o)) (g 3) = BI at *
  generalize (S.2.1 i).2.2.1 = D at *
  generalize 2 ^ g 1 = E at *
  have eg : fl_Rn fl_C 225 100 [some (.ref 259), some (.int (Int32.ofNat f)), some (.int (Int32.ofNat i)), some (.int (Int32.ofNat n)), some (.int (Int32.ofNat (g 0)))] [] y3 = fl_ca fl_C 225 163 [some (.ref 259), some (.int (Int32.ofNat f)), some (.int (Int32.ofNat i)), some (.int (Int32.ofNat n)), some (.int (Int32.ofNat P3))] [] [] (some (some (some (.int BI)), y5)) := by
    rw [fbC_225_100]
    simp (disch := omega) only [g3.1, g3.2, g4.1, g4.2, g5.1, g5.2, fl_KM, fl_RM, fl_lit, fl_nadd, fl_nmul, fl_ndiv, fl_nsub, fl_msub, fl_nle, fl_nlt, fl_neq, fl_nclamp, fl_nin, fl_ltT, fl_ltF, fl_leT, fl_leF, fl_eqT, fl_eqF, decide_true, decide_false, Bool.true_and, Bool.and_true, Bool.false_and, Bool.and_false, if_true, if_false, Bool.false_eq_true, Option.isSome_some, Option.getD_some, not_true_eq_false, not_false_eq_true, Option.toList_some, Option.toList_none, List.cons_append, List.nil_append, e95, fbP_225_106, e220, fbP_225_133, c1', fbC_225_142, x1, x2, e4, fbP_225_148, e222', fbP_225_154, e5, fbP_225_158, e139]
  rw [fbC_225_53]
  simp (disch := omega) only [hg.1, hg.2, g1.1, g1.2, g2.1, g2.2, fl_KM, fl_RM, fl_lit, fl_nadd, fl_nmul, fl_ndiv, fl_nsub, fl_msub, fl_nle, fl_nlt, fl_neq, fl_nclamp, fl_nin, fl_ltT, fl_ltF, fl_leT, fl_leF, fl_eqT, fl_eqF, decide_true, decide_false, Bool.true_and, Bool.and_true, Bool.false_and, Bool.and_false, if_true, if_false, Bool.false_eq_true, Option.isSome_some, Option.getD_some, not_true_eq_false, not_false_eq_true, Option.toList_some, Option.toList_none, List.cons_append, List.nil_append, e129, fbP_225_59, sh, c2, fbC_225_69, c1, fbC_225_81, x1, e1, fbP_225_87, e222, fbP_225_93, e2, fbP_225_97, e3, eg]
end
