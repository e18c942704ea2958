/-! drawn: the reference's side; both alike -/
section
variable {k0 : Nat → Nat × Nat} {h : fl_H} {g : Nat → Nat} {c : Nat × Nat × Nat × Bool}
theorem fr_250 (hg : fl_g k0 h) {R : Int32} (e : fl_i h 259 32 = R) : fl_cl fl_C 250 [.ref 259, .int (Int32.ofNat 2)] h = some (some (some (.int (Int32.ofNat (fl_du ((R * Int32.ofNat 1103515245) + Int32.ofNat 12345) % 2)))), fl_wi h 259 (fl_up (fl_i h 259) 32 ((R * Int32.ofNat 1103515245) + Int32.ofNat 12345))) := by
  have du := fl_du_eq ((R * Int32.ofNat 1103515245) + Int32.ofNat 12345)
  have ul := fl_du_lt ((R * Int32.ofNat 1103515245) + Int32.ofNat 12345)
  rw [fbE_250]
  simp (disch := omega) only [fl_k_wl, fl_r_wl, fl_i_wl, fl_l_wl, fl_1_wl, fl_k_wi, fl_r_wi, fl_l_wi, fl_1_wi, fl_i_wi, fl_k_si, fl_r_si, fl_l_si, fl_k_sl, fl_r_sl, fl_i_sl, fl_up_self, fl_up_ne, fl_si_wi, fl_sl_wl, fl_wi_wi, fl_wl_wl, hg.1, fl_KM, fl_RM, fl_lit, fl_nadd, fl_nmul, fl_ndiv, fl_nsub, fl_msub, fl_nle, fl_nlt, fl_neq, fl_nclamp, fl_nin, fl_ltT, fl_ltF, fl_leT, fl_leF, fl_eqT, fl_eqF, decide_true, decide_false, Bool.true_and, Bool.and_true, Bool.false_and, Bool.and_false, if_true, if_false, Bool.false_eq_true, Option.isSome_some, Option.getD_some, not_true_eq_false, not_false_eq_true, Option.toList_some, Option.toList_none, List.cons_append, List.nil_append, e, fbC_250_16, du]
abbrev fl_S2 (q j : Nat) : Prop := (q = 259 ∧ j = 32) ∨ q = 268
/-- the row of patterns that is drawn -/
theorem fr_251l (hg : fl_g k0 h) (m : fl_mm h g) (w : fl_wf g) {s : Int32} {n : Nat} (n24 : n ≤ 24) (e32 : fl_i h 259 32 = s) {Q : Option Value → fl_H → Prop} (hx : ∀ x, fl_df fl_S2 h x → (∀ i, i < n → fl_i x 268 i = Int32.ofNat (fl_dp s g i)) → fl_to (fl_Rn fl_C 251 31 [some (.ref 259), none, some (.int (Int32.ofNat n)), some (.int (Int32.ofNat n))] [] x) Q) : fl_to (fl_Rn fl_C 251 31 [some (.ref 259), none, some (.int (Int32.ofNat n)), some (.int (Int32.ofNat 0))] [] h) Q := by
  have w4 : g 1 ≤ 4 := w.1.2.1
  refine fl_loopT (F := fun t x => fl_Rn fl_C 251 31 [some (.ref 259), none, some (.int (Int32.ofNat n)), some (.int (Int32.ofNat t))] [] x) (fun t x => fl_df fl_S2 h x ∧ fl_i x 259 32 = fl_dw s (t * g 1) ∧ ∀ i, i < t → fl_i x 268 i = Int32.ofNat (fl_dp s g i)) n ?_ ?_ 0 h (Nat.zero_le _) ⟨fl_df_rfl, by rw [Nat.zero_mul]; exact e32, fun i hi => absurd hi (by omega)⟩
  · rintro x ⟨dx, -, l⟩
    exact hx x dx l
  · rintro t x ht ⟨dx, r, l⟩ hy
    have gx := fl_df_g hg dx
    have st : fl_Rn fl_C 251 31 [some (.ref 259), none, some (.int (Int32.ofNat n)), some (.int (Int32.ofNat t))] [] x = fl_Rn fl_C 251 46 [some (.ref 259), none, some (.int (Int32.ofNat n)), some (.int (Int32.ofNat t)), some (.int (Int32.ofNat 0))] [] (fl_wi x 268 (fl_up (fl_i x 268) t (Int32.ofNat 0))) := by
      clear m w dx hy hx
      rw [fbC_251_31]
      simp (disch := omega) only [fl_k_wl, fl_r_wl, fl_i_wl, fl_l_wl, fl_1_wl, fl_k_wi, fl_r_wi, fl_l_wi, fl_1_wi, fl_i_wi, fl_k_si, fl_r_si, fl_l_si, fl_k_sl, fl_r_sl, fl_i_sl, fl_up_self, fl_up_ne, fl_si_wi, fl_sl_wl, fl_wi_wi, fl_wl_wl, gx.1, gx.2, fl_KM, fl_RM, fl_lit, fl_nadd, fl_nmul, fl_ndiv, fl_nsub, fl_msub, fl_nle, fl_nlt, fl_neq, fl_nclamp, fl_nin, fl_ltT, fl_ltF, fl_leT, fl_leF, fl_eqT, fl_eqF, decide_true, decide_false, Bool.true_and, Bool.and_true, Bool.false_and, Bool.and_false, if_true, if_false, Bool.false_eq_true, Option.isSome_some, Option.getD_some, not_true_eq_false, not_false_eq_true, Option.toList_some, Option.toList_none, List.cons_append, List.nil_append, fbC_251_43]
    rw [st]
    refine fl_loopT (F := fun k x => fl_Rn fl_C 251 46 [some (.ref 259), none, some (.int (Int32.ofNat n)), some (.int (Int32.ofNat t)), some (.int (Int32.ofNat k))] [] x) (fun k x => fl_df fl_S2 h x ∧ fl_i x 259 32 = fl_dw s (t * g 1 + k) ∧ fl_i x 268 t = Int32.ofNat (fl_pt (fl_dx s) (t * g 1) k) ∧ ∀ i, i < t → fl_i x 268 i = Int32.ofNat (fl_dp s g i)) (g 1) ?_ ?_ 0 _ (Nat.zero_le _) ⟨fl_df_wi dx (fun j z => absurd (Or.inr rfl) z), by rw [fl_i_wi, if_neg (by omega)]; exact r, by rw [fl_i_wi, if_pos rfl, fl_up_self]; rfl, fun i hi => by rw [fl_i_wi, if_pos rfl, fl_up_ne (by omega)]; exact l i hi⟩
    · rintro y ⟨dy, ry, py, ly⟩
      have gy := fl_df_g hg dy
      have e129 := fr_129h gy
      rw [(dy.2.2.2 262 1 (by omega)).1, m 1 (by omega)] at e129
      have fin : fl_Rn fl_C 251 46 [some (.ref 259), none, some (.int (Int32.ofNat n)), some (.int (Int32.ofNat t)), some (.int (Int32.ofNat (g 1)))] [] y = fl_Rn fl_C 251 31 [some (.ref 259), none, some (.int (Int32.ofNat n)), some (.int (Int32.ofNat (t + 1)))] [] y := by
        clear m w dx hy hx dy ry py ly l st
        rw [fbC_251_46]
        simp (disch := omega) only [gy.1, fl_KM, fl_RM, fl_lit, fl_nadd, fl_nmul, fl_ndiv, fl_nsub, fl_msub, fl_nle, fl_nlt, fl_neq, fl_nclamp, fl_nin, fl_ltT, fl_ltF, fl_leT, fl_leF, fl_eqT, fl_eqF, decide_true, decide_false, Bool.true_and, Bool.and_true, Bool.false_and, Bool.and_false, if_true, if_false, Bool.false_eq_true, Option.isSome_some, Option.getD_some, not_true_eq_false, not_false_eq_true, Option.toList_some, Option.toList_none, List.cons_append, List.nil_append, e129, fbP_251_52]
      rw [fin]
      refine hy y ⟨dy, by rw [Nat.add_mul, Nat.one_mul]; exact ry, fun i hi => ?_⟩
      by_cases e : i = t
      · subst e; exact py
      · exact ly i (by omega)
    · rintro k y hk ⟨dy, ry, py, ly⟩ hz
      have gy := fl_df_g hg dy
      have e129 := fr_129h gy
      rw [(dy.2.2.2 262 1 (by omega)).1, m 1 (by omega)] at e129
      have e250 := fr_250 gy ry
      have dv : fl_sval (fl_dx s (t * g 1 + k)) = fl_du ((fl_dw s (t * g 1 + k) * Int32.ofNat 1103515245) + Int32.ofNat 12345) % 2 := fl_dx_val
      have o4 := fl_or4 k (by omega) (fl_pt (fl_dx s) (t * g 1) k) (fl_pt_lt k) (fl_sval (fl_dx s (t * g 1 + k))) (by have := fl_sval_le (fl_dx s (t * g 1 + k)); omega)
      rw [dv, show (31 : Int32) = Int32.ofNat 31 from rfl, ← dv] at o4
      rw [← dv] at e250
      have pn : fl_pt (fl_dx s) (t * g 1) (k + 1) = fl_pt (fl_dx s) (t * g 1) k + fl_sval (fl_dx s (t * g 1 + k)) * 4 ^ k := rfl
      rw [← pn] at o4
      have fin : fl_Rn fl_C 251 46 [some (.ref 259), none, some (.int (Int32.ofNat n)), some (.int (Int32.ofNat t)), some (.int (Int32.ofNat k))] [] y = fl_Rn fl_C 251 46 [some (.ref 259), none, some (.int (Int32.ofNat n)), some (.int (Int32.ofNat t)), some (.int (Int32.ofNat (k + 1)))] [] (fl_wi (fl_wi y 259 (fl_up (fl_i y 259) 32 (fl_dw s (t * g 1 + (k + 1))))) 268 (fl_up (fl_i y 268) t (Int32.ofNat (fl_pt (fl_dx s) (t * g 1) (k + 1))))) := by
        have dw : fl_dw s (t * g 1 + (k + 1)) = (fl_dw s (t * g 1 + k) * Int32.ofNat 1103515245) + Int32.ofNat 12345 := rfl
        rw [dw]
        clear m w dx hy hx dy ly l st dv pn hz dw
        generalize (fl_dw s (t * g 1 + k) * Int32.ofNat 1103515245) + Int32.ofNat 12345 = R at *
        generalize fl_pt (fl_dx s) (t * g 1) (k + 1) = P at *
        generalize fl_pt (fl_dx s) (t * g 1) k = p at *
        generalize fl_sval (fl_dx s (t * g 1 + k)) = v at *
        rw [fbC_251_46]
        simp (disch := omega) only [fl_k_wl, fl_r_wl, fl_i_wl, fl_l_wl, fl_1_wl, fl_k_wi, fl_r_wi, fl_l_wi, fl_1_wi, fl_i_wi, fl_k_si, fl_r_si, fl_l_si, fl_k_sl, fl_r_sl, fl_i_sl, fl_up_self, fl_up_ne, fl_si_wi, fl_sl_wl, fl_wi_wi, fl_wl_wl, gy.1, gy.2, fl_KM, fl_RM, fl_lit, fl_nadd, fl_nmul, fl_ndiv, fl_nsub, fl_msub, fl_nle, fl_nlt, fl_neq, fl_nclamp, fl_nin, fl_ltT, fl_ltF, fl_leT, fl_leF, fl_eqT, fl_eqF, decide_true, decide_false, Bool.true_and, Bool.and_true, Bool.false_and, Bool.and_false, if_true, if_false, Bool.false_eq_true, Option.isSome_some, Option.getD_some, not_true_eq_false, not_false_eq_true, Option.toList_some, Option.toList_none, List.cons_append, List.nil_append, e129, fbP_251_52, py, fbC_251_62, e250, fbP_251_67, o4, fbC_251_74]
      rw [fin]
      refine hz _ ⟨fl_df_wi (fl_df_wiu dy (Or.inl ⟨rfl, rfl⟩)) (fun j z => absurd (Or.inr rfl) z), ?_, ?_, fun i hi => ?_⟩
      · rw [fl_i_wi, if_neg (by omega), fl_i_wi, if_pos rfl, fl_up_self]
      · rw [fl_i_wi, if_pos rfl, fl_up_self]
      · rw [fl_i_wi, if_pos rfl, fl_up_ne (by omega)]; exact ly i hi
theorem fl_m1_neg {a : Nat} (ha : a < 1000) : (fl_m1 a < Int32.ofNat 0) = (a = 0) := by
  rw [Int32.lt_iff_toInt_lt, fl_m1_int ha, show (Int32.ofNat 0).toInt = 0 from rfl]
  exact propext (by omega)
theorem fr_50m {a b : Nat} (ha : a < 1000) (hb : b < 1000) : fl_cl fl_C 50 [.int (fl_m1 a), .int (fl_m1 b)] h = some (some (some (.int (fl_m1 (max a b)))), h) := by
  rw [fbE_50]
  by_cases c : a < b
  · rw [fl_ifd (show fl_m1 a < fl_m1 b by rw [fl_m1_lt ha hb]; exact c), Nat.max_eq_right (by omega)]
  · rw [fl_ifn (show ¬ fl_m1 a < fl_m1 b by rw [fl_m1_lt ha hb]; exact c), Nat.max_eq_left (by omega)]
/-- the greatest first tick, and the set, of a row that is laid out -/
theorem fr_251m (hg : fl_g k0 h) (m : fl_mm h g) (w : fl_wf g) {n : Nat} {ps : Nat → Nat} (l : fl_ls h n ps) (hp : fl_okp g ps n) : ∃ y, fl_df fl_scr h y ∧ fl_Rn fl_C 251 31 [some (.ref 259), none, some (.int (Int32.ofNat n)), some (.int (Int32.ofNat n))] [] h = some (some (some (.int (Int32.ofNat (fl_cnt (fl_hb (fl_bs (fun f => fl_any (fl_shn g f ps) n) (2 * (g 0 + g 2)))) 64)))), fl_ra2 y (fl_bs (fun f => fl_any (fl_shn g f ps) n) (2 * (g 0 + g 2))) (Int32.toInt64 (fl_m1 (fl_rmx (fun f => fl_any (fl_shn g f ps) n) (fun f => fl_frst (fl_shn g f ps) n) (2 * (g 0 + g 2)))))) := by
  have w1 : g 0 ≤ 12 := w.1.2.2.2.1
  have w2 : g 2 ≤ 20 := w.1.2.2.2.2.1
  have l1 := l.1
  obtain ⟨r, h1, e138, rfl, fx1, gd1⟩ := fr_138 hg m w l hp
  have e1 : fl_Rn fl_C 251 31 [some (.ref 259), none, some (.int (Int32.ofNat n)), some (.int (Int32.ofNat n))] [] h = fl_Rn fl_C 251 98 [some (.ref 259), none, none, some (.long 0), none, some (.int (-Int32.ofNat 1)), some (.int (Int32.ofNat 0))] [] h1 := by
    clear m w l hp
    rw [fbC_251_31]
    simp (disch := omega) only [hg.1, fl_KM, fl_RM, fl_lit, fl_nadd, fl_nmul, fl_ndiv, fl_nsub, fl_msub, fl_nle, fl_nlt, fl_neq, fl_nclamp, fl_nin, fl_ltT, fl_ltF, fl_leT, fl_leF, fl_eqT, fl_eqF, decide_true, decide_false, Bool.true_and, Bool.and_true, Bool.false_and, Bool.and_false, if_true, if_false, Bool.false_eq_true, Option.isSome_some, Option.getD_some, not_true_eq_false, not_false_eq_true, Option.toList_some, Option.toList_none, List.cons_append, List.nil_append, e138, fbP_251_90]
  rw [e1]
  clear e1 e138
  suffices fl_to (fl_Rn fl_C 251 98 [some (.ref 259), none, none, some (.long 0), none, some (.int (-Int32.ofNat 1)), some (.int (Int32.ofNat 0))] [] h1) (fun v z => v = some (.int (Int32.ofNat (fl_cnt (fl_hb (fl_bs (fun f => fl_any (fl_shn g f ps) n) (2 * (g 0 + g 2)))) 64))) ∧ ∃ y, fl_df fl_scr h y ∧ z = fl_ra2 y (fl_bs (fun f => fl_any (fl_shn g f ps) n) (2 * (g 0 + g 2))) (Int32.toInt64 (fl_m1 (fl_rmx (fun f => fl_any (fl_shn g f ps) n) (fun f => fl_frst (fl_shn g f ps) n) (2 * (g 0 + g 2)))))) by
    obtain ⟨v, z, e, rfl, y, dy, rfl⟩ := this
    exact ⟨y, dy, e⟩
  have rmb : ∀ f, fl_rmx (fun f => fl_any (fl_shn g f ps) n) (fun f => fl_frst (fl_shn g f ps) n) f ≤ 24 := fun f => fl_rmx_le.mpr (fun f _ ha => by have := (fl_frst_sp ha).1; omega)
  refine fl_loopT (F := fun f x => fl_Rn fl_C 251 98 [some (.ref 259), none, none, some (.long (fl_bs (fun f => fl_any (fl_shn g f ps) n) f)), none, some (.int (fl_m1 (fl_rmx (fun f => fl_any (fl_shn g f ps) n) (fun f => fl_frst (fl_shn g f ps) n) f))), some (.int (Int32.ofNat f))] [] x) (fun f x => fl_fx (fun b => b = 266 ∨ b = 267 ∨ b = 269 ∨ b = 270) h x ∧ fl_gd x g n ps) (2 * (g 0 + g 2)) ?_ ?_ 0 h1 (Nat.zero_le _) ⟨fx1, gd1⟩
  · rintro x ⟨fx, gdx⟩
    have gx := fl_g_fx hg fx
    have e88 := fr_88 gx (fl_mm_fx m fx (by omega))
    have t1 := fr_ra1 gx (fl_bs (fun f => fl_any (fl_shn g f ps) n) (2 * (g 0 + g 2)))
    have t2 := fr_ra2 gx (fl_bs (fun f => fl_any (fl_shn g f ps) n) (2 * (g 0 + g 2))) (Int32.toInt64 (fl_m1 (fl_rmx (fun f => fl_any (fl_shn g f ps) n) (fun f => fl_frst (fl_shn g f ps) n) (2 * (g 0 + g 2)))))
    have bt := fr_144 (h := fl_ra2 x (fl_bs (fun f => fl_any (fl_shn g f ps) n) (2 * (g 0 + g 2))) (Int32.toInt64 (fl_m1 (fl_rmx (fun f => fl_any (fl_shn g f ps) n) (fun f => fl_frst (fl_shn g f ps) n) (2 * (g 0 + g 2)))))) (fl_bs (fun f => fl_any (fl_shn g f ps) n) (2 * (g 0 + g 2)))
    have ga := fl_a0_g gx
    have g1 := fl_df_g gx (fl_ra1_df (A := fl_bs (fun f => fl_any (fl_shn g f ps) n) (2 * (g 0 + g 2))))
    have fin : fl_Rn fl_C 251 98 [some (.ref 259), none, none, some (.long (fl_bs (fun f => fl_any (fl_shn g f ps) n) (2 * (g 0 + g 2)))), none, some (.int (fl_m1 (fl_rmx (fun f => fl_any (fl_shn g f ps) n) (fun f => fl_frst (fl_shn g f ps) n) (2 * (g 0 + g 2))))), some (.int (Int32.ofNat (2 * (g 0 + g 2))))] [] x = some (some (some (.int (Int32.ofNat (fl_cnt (fl_hb (fl_bs (fun f => fl_any (fl_shn g f ps) n) (2 * (g 0 + g 2)))) 64)))), fl_ra2 x (fl_bs (fun f => fl_any (fl_shn g f ps) n) (2 * (g 0 + g 2))) (Int32.toInt64 (fl_m1 (fl_rmx (fun f => fl_any (fl_shn g f ps) n) (fun f => fl_frst (fl_shn g f ps) n) (2 * (g 0 + g 2)))))) := by
      clear w m hp l rmb gd1 fx1 gdx fx
      generalize fl_rmx (fun f => fl_any (fl_shn g f ps) n) (fun f => fl_frst (fl_shn g f ps) n) (2 * (g 0 + g 2)) = M at *
      generalize fl_bs (fun f => fl_any (fl_shn g f ps) n) (2 * (g 0 + g 2)) = BB at *
      generalize fl_ra2 x BB (Int32.toInt64 (fl_m1 M)) = H2 at *
      generalize fl_ra1 x BB = H1 at *
      rw [fbC_251_98]
      simp (disch := omega) only [fl_k_wl, fl_r_wl, fl_i_wl, fl_l_wl, fl_1_wl, fl_k_wi, fl_r_wi, fl_l_wi, fl_1_wi, fl_i_wi, fl_k_si, fl_r_si, fl_l_si, fl_k_sl, fl_r_sl, fl_i_sl, fl_up_self, fl_up_ne, fl_si_wi, fl_sl_wl, fl_wi_wi, fl_wl_wl, gx.1, gx.2, fl_KM, fl_RM, fl_lit, fl_nadd, fl_nmul, fl_ndiv, fl_nsub, fl_msub, fl_nle, fl_nlt, fl_neq, fl_nclamp, fl_nin, fl_ltT, fl_ltF, fl_leT, fl_leF, fl_eqT, fl_eqF, decide_true, decide_false, Bool.true_and, Bool.and_true, Bool.false_and, Bool.and_false, if_true, if_false, Bool.false_eq_true, Option.isSome_some, Option.getD_some, not_true_eq_false, not_false_eq_true, Option.toList_some, Option.toList_none, List.cons_append, List.nil_append, e88, fbP_251_104, fl_a0_w, fbC_251_151, ga.1, t1, fbP_251_156, g1.1, t2, fbP_251_163, bt, fbP_251_167]
    exact ⟨_, _, fin, rfl, x, fl_df_fx fx (fun q j z => by omega), rfl⟩
  · rintro f x hf ⟨fx, gdx⟩ hy
    have gx := fl_g_fx hg fx
    have mx := fl_mm_fx m fx (by omega)
    have lx := fl_ls_fx l fx (by omega) (by omega)
    have e88 := fr_88 gx mx
    obtain ⟨r, y, e232, rfl, fy⟩ := fr_232 gx mx w lx hp gdx (show f < 64 by omega)
    have sp := fun ha => (fl_frst_sp (q := fl_shn g f ps) (n := n) ha).1
    have rb := rmb f
    have rm : fl_rmx (fun f => fl_any (fl_shn g f ps) n) (fun f => fl_frst (fl_shn g f ps) n) (f + 1) = max (fl_rmx (fun f => fl_any (fl_shn g f ps) n) (fun f => fl_frst (fl_shn g f ps) n) f) (if fl_any (fl_shn g f ps) n = true then fl_frst (fl_shn g f ps) n + 1 else 0) := rfl
    have fin : fl_Rn fl_C 251 98 [some (.ref 259), none, none, some (.long (fl_bs (fun f => fl_any (fl_shn g f ps) n) f)), none, some (.int (fl_m1 (fl_rmx (fun f => fl_any (fl_shn g f ps) n) (fun f => fl_frst (fl_shn g f ps) n) f))), some (.int (Int32.ofNat f))] [] x = fl_Rn fl_C 251 98 [some (.ref 259), none, none, some (.long (fl_bs (fun f => fl_any (fl_shn g f ps) n) (f + 1))), none, some (.int (fl_m1 (fl_rmx (fun f => fl_any (fl_shn g f ps) n) (fun f => fl_frst (fl_shn g f ps) n) (f + 1)))), some (.int (Int32.ofNat (f + 1)))] [] y := by
      have bsn : fl_bs (fun f => fl_any (fl_shn g f ps) n) (f + 1) = fl_bs (fun f => fl_any (fl_shn g f ps) n) f ||| (if fl_any (fl_shn g f ps) n = true then 1 <<< (Int32.toInt64 (Int32.ofNat f) &&& 63) else 0) := rfl
      rw [rm, bsn]
      rw [fl_m1_oi] at e232
      have e50 := fr_50m (h := y) (a := fl_rmx (fun f => fl_any (fl_shn g f ps) n) (fun f => fl_frst (fl_shn g f ps) n) f) (b := if fl_any (fl_shn g f ps) n = true then fl_frst (fl_shn g f ps) n + 1 else 0) (by omega) (by
        cases z : fl_any (fl_shn g f ps) n with
        | true => have := sp z; rw [if_pos rfl]; omega
        | false => rw [if_neg (by decide)]; omega)
      clear w m mx hp l lx hy rmb rm fy gd1 fx1 gdx fx
      generalize fl_rmx (fun f => fl_any (fl_shn g f ps) n) (fun f => fl_frst (fl_shn g f ps) n) f = M at *
      generalize fl_bs (fun f => fl_any (fl_shn g f ps) n) f = BB at *
      cases z : fl_any (fl_shn g f ps) n with
      | true =>
        rw [z, if_pos rfl] at e232 e50
        rw [if_pos rfl, if_pos rfl]
        have sz := sp z
        have mz : (fl_m1 (fl_frst (fl_shn g f ps) n + 1) < Int32.ofNat 0) = False := by rw [fl_m1_neg (by omega)]; exact eq_false (by omega)
        clear sp bsn
        rw [fbC_251_98]
        simp (disch := omega) only [gx.1, fl_KM, fl_RM, fl_lit, fl_nadd, fl_nmul, fl_ndiv, fl_nsub, fl_msub, fl_nle, fl_nlt, fl_neq, fl_nclamp, fl_nin, fl_ltT, fl_ltF, fl_leT, fl_leF, fl_eqT, fl_eqF, decide_true, decide_false, Bool.true_and, Bool.and_true, Bool.false_and, Bool.and_false, if_true, if_false, Bool.false_eq_true, Option.isSome_some, Option.getD_some, not_true_eq_false, not_false_eq_true, Option.toList_some, Option.toList_none, List.cons_append, List.nil_append, e88, fbP_251_104, e232, fbP_251_113, mz, e50, fbP_251_138]
      | false =>
        rw [z, if_neg (by decide)] at e232 e50
        rw [if_neg (by decide), if_neg (by decide)]
        have mz : (fl_m1 0 < Int32.ofNat 0) = True := eq_true (by decide)
        clear sp bsn
        rw [fbC_251_98]
        simp (disch := omega) only [gx.1, fl_KM, fl_RM, fl_lit, fl_nadd, fl_nmul, fl_ndiv, fl_nsub, fl_msub, fl_nle, fl_nlt, fl_neq, fl_nclamp, fl_nin, fl_ltT, fl_ltF, fl_leT, fl_leF, fl_eqT, fl_eqF, decide_true, decide_false, Bool.true_and, Bool.and_true, Bool.false_and, Bool.and_false, if_true, if_false, Bool.false_eq_true, Option.isSome_some, Option.getD_some, not_true_eq_false, not_false_eq_true, Option.toList_some, Option.toList_none, List.cons_append, List.nil_append, e88, fbP_251_104, e232, fbP_251_113, mz, e50, fbP_251_138]
    rw [fin]
    exact hy _ ⟨fl_fx_tr fx (fl_fx_mo fy (by omega)), fl_gd_fx gdx fy (by omega) (by omega)⟩
theorem fl_in1 {N : Nat} (hN : N < 1000) (p : Int32) {M : Int64} (hM : M.toInt = N) : (1 ≤ Int32.toInt64 p ∧ Int32.toInt64 p ≤ M) ↔ ∃ k, p = Int32.ofNat k ∧ 1 ≤ k ∧ k ≤ N := by
  rw [Int64.le_iff_toInt_le, Int64.le_iff_toInt_le, fl_toI64, hM, show (1 : Int64).toInt = 1 from rfl]
  constructor
  · rintro ⟨h1, h2⟩
    have l0 : ¬ p < 0 := by rw [fl_i32_lt0]; omega
    have n0 := fl_i32_nat l0
    exact ⟨p.toNatClampNeg, by apply Int32.toInt_inj.mp; rw [fl_toI (by omega)]; omega, by omega, by omega⟩
  · rintro ⟨k, rfl, h1, h2⟩
    rw [fl_toI (by omega)]
    omega
theorem fo_drawn_b (hg : fl_g k0 h) (m : fl_mm h g) (w : fl_wf g) (s : Int32) {n : Nat} (n1 : 1 ≤ n) (n24 : n ≤ 24) : ∃ y, fl_df fl_scr h y ∧ fl_cl fl_C 251 [.ref 259, .int s, .int (Int32.ofNat n)] h = some (some (some (.int (Int32.ofNat (fl_cnt (fl_hb (fl_bs (fun f => fl_any (fl_shn g f (fl_dp s g)) n) (2 * (g 0 + g 2)))) 64)))), fl_ra2 y (fl_bs (fun f => fl_any (fl_shn g f (fl_dp s g)) n) (2 * (g 0 + g 2))) (Int32.toInt64 (fl_m1 (fl_rmx (fun f => fl_any (fl_shn g f (fl_dp s g)) n) (fun f => fl_frst (fl_shn g f (fl_dp s g)) n) (2 * (g 0 + g 2)))))) := by
  have d0 : fl_df fl_scr h (fl_wi h 259 (fl_up (fl_up (fl_up (fl_i h 259) 0 (Int32.ofNat 0)) 32 s) 16 (Int32.ofNat n))) := fl_df_wi fl_df_rfl (fun j z => by rw [fl_up_ne (by omega), fl_up_ne (by omega), fl_up_ne (by omega)])
  have e37 := fr_37 (h := fl_wi h 259 (fl_up (fl_i h 259) 0 (Int32.ofNat 0))) (Int32.toInt64 (Int32.ofNat n)) 1 24
  rw [if_pos ((fl_in1 (N := 24) (by omega) (Int32.ofNat n) rfl).mpr ⟨n, rfl, n1, n24⟩)] at e37
  have st : fl_cl fl_C 251 [.ref 259, .int s, .int (Int32.ofNat n)] h = fl_Rn fl_C 251 31 [some (.ref 259), none, some (.int (Int32.ofNat n)), some (.int (Int32.ofNat 0))] [] (fl_wi h 259 (fl_up (fl_up (fl_up (fl_i h 259) 0 (Int32.ofNat 0)) 32 s) 16 (Int32.ofNat n))) := by
    clear m w d0
    rw [fbE_251]
    simp (disch := omega) only [fl_k_wl, fl_r_wl, fl_i_wl, fl_l_wl, fl_1_wl, fl_k_wi, fl_r_wi, fl_l_wi, fl_1_wi, fl_i_wi, fl_k_si, fl_r_si, fl_l_si, fl_k_sl, fl_r_sl, fl_i_sl, fl_up_self, fl_up_ne, fl_si_wi, fl_sl_wl, fl_wi_wi, fl_wl_wl, hg.1, hg.2, fl_KM, fl_RM, fl_lit, fl_nadd, fl_nmul, fl_ndiv, fl_nsub, fl_msub, fl_nle, fl_nlt, fl_neq, fl_nclamp, fl_nin, fl_ltT, fl_ltF, fl_leT, fl_leF, fl_eqT, fl_eqF, decide_true, decide_false, Bool.true_and, Bool.and_true, Bool.false_and, Bool.and_false, if_true, if_false, Bool.false_eq_true, Option.isSome_some, Option.getD_some, not_true_eq_false, not_false_eq_true, Option.toList_some, Option.toList_none, List.cons_append, List.nil_append, fbC_251_5, e37, fbP_251_14, fbC_251_24, fbC_251_29]
  have g0 := fl_df_g hg d0
  have m0 : fl_mm (fl_wi h 259 (fl_up (fl_up (fl_up (fl_i h 259) 0 (Int32.ofNat 0)) 32 s) 16 (Int32.ofNat n))) g := fun j hj => by rw [(d0.2.2.2 262 j (by omega)).1]; exact m j hj
  have e32 : fl_i (fl_wi h 259 (fl_up (fl_up (fl_up (fl_i h 259) 0 (Int32.ofNat 0)) 32 s) 16 (Int32.ofNat n))) 259 32 = s := by rw [fl_i_wi, if_pos rfl, fl_up_ne (by omega), fl_up_self]
  have e16 : fl_i (fl_wi h 259 (fl_up (fl_up (fl_up (fl_i h 259) 0 (Int32.ofNat 0)) 32 s) 16 (Int32.ofNat n))) 259 16 = Int32.ofNat n := by rw [fl_i_wi, if_pos rfl, fl_up_self]
  rw [st]
  clear st e37
  generalize fl_wi h 259 (fl_up (fl_up (fl_up (fl_i h 259) 0 (Int32.ofNat 0)) 32 s) 16 (Int32.ofNat n)) = H at *
  have key := fr_251l g0 m0 w (s := s) n24 e32 (Q := fun v z => v = some (.int (Int32.ofNat (fl_cnt (fl_hb (fl_bs (fun f => fl_any (fl_shn g f (fl_dp s g)) n) (2 * (g 0 + g 2)))) 64))) ∧ ∃ y, fl_df fl_scr h y ∧ z = fl_ra2 y (fl_bs (fun f => fl_any (fl_shn g f (fl_dp s g)) n) (2 * (g 0 + g 2))) (Int32.toInt64 (fl_m1 (fl_rmx (fun f => fl_any (fl_shn g f (fl_dp s g)) n) (fun f => fl_frst (fl_shn g f (fl_dp s g)) n) (2 * (g 0 + g 2)))))) (by
    intro x dx lx
    have gx := fl_df_g g0 dx
    obtain ⟨y, dy, e⟩ := fr_251m gx (fun j hj => by rw [(dx.2.2.2 262 j (by omega)).1]; exact m0 j hj) w (n := n) (ps := fl_dp s g) ⟨n24, by rw [(dx.2.2.2 259 16 (by omega)).1]; exact e16, lx⟩ (fl_dp_ok w n)
    exact ⟨_, _, e, rfl, y, fl_df_tr d0 (fl_df_tr (fl_df_mo dx (fun q j z => by
      rcases z with z | z
      · exact Or.inr (by omega)
      · exact Or.inl (by omega))) dy), rfl⟩)
  obtain ⟨v, z, e, rfl, y, dy, rfl⟩ := key
  exact ⟨y, dy, e⟩
/-- what is told last, by both -/
theorem fo_tell2 (I : fl_Inv k0 c h) {y z : fl_H} {A B : Int64} {v : Int32} {x m : Nat} {as bs : List Value} (a : fl_cl fl_C x (.ref 0 :: as) h = some (some (some (.int v)), fl_ca2 y A B)) (dy : fl_df (fun q _ => 144 ≤ q ∧ q ≤ 258) h y) (b : fl_cl fl_C m (.ref 259 :: bs) (fl_ca2 y A B) = some (some (some (.int v)), fl_ra2 z A B)) (dz : fl_df fl_scr (fl_ca2 y A B) z) : fl_both k0 c x m as bs h := by
  obtain ⟨rn, rv, iO⟩ := I.2.2.2.1
  have d1 := fl_ca2_df (h := y) (A := A) (B := B)
  have v1 := fl_ca2_v (h := y) (A := A) (B := B)
  have d2 := fl_ra2_df (h := z) (A := A) (B := B)
  have v2 := fl_ra2_v (h := z) (A := A) (B := B)
  have dm : fl_df (fun q j => fl_scr q j ∨ fl_Sae q j) (fl_ca2 y A B) (fl_ra2 z A B) := fl_df_tr (fl_df_mo dz (fun q j z => Or.inl z)) (fl_df_mo d2 (fun q j z => Or.inr z))
  refine ⟨_, _, _, a, b, fl_Inv_sq I (fl_df_tr (fl_df_mo dy (fun q j z => Or.inr (Or.inr (Or.inr (Or.inr (Or.inr z)))))) (fl_df_tr (fl_df_mo d1 (fun q j z => fl_Sc6_SQ z)) (fl_df_tr (fl_df_mo dz (fun q j z => Or.inl z)) (fl_df_mo d2 (fun q j z => fl_Sae_SQ z))))) ⟨2, fun j => if j = 0 then A else B, by omega, v2.1, by rw [(dm.2.2.2 4 1 (by omega)).1, (d1.2.2.2 4 1 (by omega)).1, (dy.2.2.2 4 1 (by omega)).1]; exact iO.2.2.1, by rw [(dm.2.2.2 4 2 (by omega)).1]; exact v1.1, fun j hj => ?_⟩⟩
  rcases (show j = 0 ∨ j = 1 by omega) with e | e <;> subst e
  · exact ⟨v2.2.1, by rw [(dm.2.2.2 6 0 (by omega)).2]; exact v1.2.1⟩
  · exact ⟨v2.2.2, by rw [(dm.2.2.2 6 1 (by omega)).2]; exact v1.2.2⟩
theorem fo_tell1 (I : fl_Inv k0 c h) {y z : fl_H} {A : Int64} {v : Int32} {x m : Nat} {as bs : List Value} (a : fl_cl fl_C x (.ref 0 :: as) h = some (some (some (.int v)), fl_ca1 y A)) (dy : fl_df (fun q _ => 144 ≤ q ∧ q ≤ 258) h y) (b : fl_cl fl_C m (.ref 259 :: bs) (fl_ca1 y A) = some (some (some (.int v)), fl_ra1 z A)) (dz : fl_df fl_scr (fl_ca1 y A) z) : fl_both k0 c x m as bs h := by
  obtain ⟨rn, rv, iO⟩ := I.2.2.2.1
  have d1 := fl_ca1_df (h := y) (A := A)
  have v1 := fl_ca1_v (h := y) (A := A)
  have d2 := fl_ra1_df (h := z) (A := A)
  have v2 := fl_ra1_v (h := z) (A := A)
  have dm : fl_df (fun q j => fl_scr q j ∨ fl_Sae q j) (fl_ca1 y A) (fl_ra1 z A) := fl_df_tr (fl_df_mo dz (fun q j z => Or.inl z)) (fl_df_mo d2 (fun q j z => Or.inr z))
  refine ⟨_, _, _, a, b, fl_Inv_sq I (fl_df_tr (fl_df_mo dy (fun q j z => Or.inr (Or.inr (Or.inr (Or.inr (Or.inr z)))))) (fl_df_tr (fl_df_mo d1 (fun q j z => fl_Sc6_SQ z)) (fl_df_tr (fl_df_mo dz (fun q j z => Or.inl z)) (fl_df_mo d2 (fun q j z => fl_Sae_SQ z))))) ⟨1, fun _ => A, by omega, v2.1, by rw [(dm.2.2.2 4 1 (by omega)).1, (d1.2.2.2 4 1 (by omega)).1, (dy.2.2.2 4 1 (by omega)).1]; exact iO.2.2.1, by rw [(dm.2.2.2 4 2 (by omega)).1]; exact v1.1, fun j hj => ?_⟩⟩
  have e : j = 0 := by omega
  subst e
  exact ⟨v2.2, by rw [(dm.2.2.2 6 0 (by omega)).2]; exact v1.2⟩
theorem fo_drawn (I : fl_Inv k0 c h) (s p : Int32) : fl_both k0 c 249 251 [.int s, .int p] [.int s, .int p] h := by
  obtain ⟨rn, rv, iO⟩ := I.2.2.2.1
  obtain ⟨g, g1, g2, b1, b2, r, s1, s2, iG⟩ := I.2.2.2.2.2
  have w := iG.1
  have w0 : g 0 ≤ 12 := w.1.2.2.2.1
  have w2 : g 2 ≤ 20 := w.1.2.2.2.2.1
  by_cases V : ∃ k, p = Int32.ofNat k ∧ 1 ≤ k ∧ k ≤ 24
  · obtain ⟨n, rfl, n1, n24⟩ := V
    obtain ⟨y, dy, a⟩ := fo_drawn_a I.1 w iG.2.2.2.1 iO.2.2.1 s n1 n24
    have lst := fl_last (lv := fl_lvf g) (q := fun f => fl_shn g f (fl_dp s g)) (F := 2 * (g 0 + g 2)) (n := n) (fun _ => rfl) (by omega)
    have ctb : fl_ct g (fl_dp s g) n = fl_bs (fun f => fl_any (fl_shn g f (fl_dp s g)) n) (2 * (g 0 + g 2)) := (fl_bs_F (by omega)).symm
    have zz : fl_zt g (fl_dp s g) = fun t => fl_any (fun c => (fl_lvf g c && fl_shn g c (fl_dp s g) t) && !(fl_lvf g c && fl_any (fl_shn g c (fl_dp s g)) t)) 64 := rfl
    rw [zz, lst, ctb] at a
    have d1 : fl_df (fun q j => (144 ≤ q ∧ q ≤ 258) ∨ fl_Sc6 q j) h (fl_ca2 y (fl_bs (fun f => fl_any (fl_shn g f (fl_dp s g)) n) (2 * (g 0 + g 2))) (Int32.toInt64 (fl_m1 (fl_rmx (fun f => fl_any (fl_shn g f (fl_dp s g)) n) (fun f => fl_frst (fl_shn g f (fl_dp s g)) n) (2 * (g 0 + g 2)))))) := fl_df_tr (fl_df_mo dy (fun q j z => Or.inl (by omega))) (fl_df_mo fl_ca2_df (fun q j z => Or.inr z))
    obtain ⟨z, dz, b⟩ := fo_drawn_b (fl_df_g I.1 d1) (fun j hj => by rw [(d1.2.2.2 262 j (by omega)).1]; exact iG.2.1 j hj) w s n1 n24
    exact fo_tell2 I a (fl_df_mo dy (fun q j z => by omega)) b dz
  · have a : fl_cl fl_C 249 [.ref 0, .int s, .int p] h = some (some (some (.int (-1))), h) := by
      rw [fbE_249]
      by_cases a1 : p < 1
      · rw [fl_ifd a1, fbC_249_11]
      · rw [fl_ifn a1]
        by_cases a2 : p ≤ 24
        · exfalso
          apply V
          rw [Int32.lt_iff_toInt_lt, show (1 : Int32).toInt = 1 from rfl] at a1
          rw [Int32.le_iff_toInt_le, show (24 : Int32).toInt = 24 from rfl] at a2
          have l0 : ¬ p < 0 := by rw [fl_i32_lt0]; omega
          have n0 := fl_i32_nat l0
          exact ⟨p.toNatClampNeg, by apply Int32.toInt_inj.mp; rw [fl_toI (by omega)]; omega, by omega, by omega⟩
        · rw [fl_ifn a2, fbC_249_11]
    have b : fl_cl fl_C 251 [.ref 259, .int s, .int p] h = some (some (some (.int (-1))), fl_wi h 259 (fl_up (fl_i h 259) 0 (Int32.ofNat 0))) := by
      have hg := I.1
      have e37 := fr_37 (h := fl_wi h 259 (fl_up (fl_i h 259) 0 (Int32.ofNat 0))) (Int32.toInt64 p) 1 24
      rw [if_neg (fun z => V ((fl_in1 (N := 24) (by omega) p rfl).mp z))] at e37
      clear V I iO iG w
      rw [fbE_251]
      simp (disch := omega) only [fl_k_wl, fl_r_wl, fl_i_wl, fl_l_wl, fl_1_wl, fl_k_wi, fl_r_wi, fl_l_wi, fl_1_wi, fl_i_wi, fl_k_si, fl_r_si, fl_l_si, fl_k_sl, fl_r_sl, fl_i_sl, fl_up_self, fl_up_ne, fl_si_wi, fl_sl_wl, fl_wi_wi, fl_wl_wl, hg.1, hg.2, fl_KM, fl_RM, fl_lit, fl_nadd, fl_nmul, fl_ndiv, fl_nsub, fl_msub, fl_nle, fl_nlt, fl_neq, fl_nclamp, fl_nin, fl_ltT, fl_ltF, fl_leT, fl_leF, fl_eqT, fl_eqF, decide_true, decide_false, Bool.true_and, Bool.and_true, Bool.false_and, Bool.and_false, if_true, if_false, Bool.false_eq_true, Option.isSome_some, Option.getD_some, not_true_eq_false, not_false_eq_true, Option.toList_some, Option.toList_none, List.cons_append, List.nil_append, fbC_251_5, e37, fbP_251_14]
    exact ⟨_, _, _, a, b, fl_Inv_qt I fl_qt_0⟩
end
