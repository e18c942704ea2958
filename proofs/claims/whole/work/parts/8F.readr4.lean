/-! THE REFERENCE reads: a line, whole -/
section
variable {k0 : Nat → Nat × Nat} {i0 : Nat → Nat → Int32} {h : fl_H} {g tx : Nat → Nat} {tn a s W w L : Nat} {P : fl_Ps} {r : fl_Ps ⊕ fl_Fa} {v c12 : Int32} {ws : Nat → Prop}
theorem fl_mr_eq {g' : Nat → Nat} (m : fl_mr h g) (e : ∀ j, j < 126 → g' j = g j) : fl_mr h g' := fun j hj => by rw [e j hj]; exact m j hj
theorem fr_84c (sk : fl_sk k0 i0) {R : Nat} (hR : R < 1000) (m : fl_mdr k0 i0 tx tn s W L (Int32.ofNat R) ws h v r) (hs : 1 ≤ s ∧ s ≤ 8) (hL : L < 12) : ∃ v' y, fl_Rn fl_C 84 199 [some (.ref 259), some (.int (Int32.ofNat L)), some (.int (Int32.ofNat s)), none, some (.int v)] [] h = some (some (some (.int v')), y) ∧ fl_df fl_Srf h y ∧ fl_rrd y v' (fl_bnd r (fl_rend tx tn s)) ∧ (∀ P', fl_bnd r (fl_rend tx tn s) = .inl P' → fl_i y 259 12 = Int32.ofNat (R + (decide (s = 8)).toNat)) ∧ ∀ e, fl_bnd r (fl_rend tx tn s) = .inr e → e.1 ≤ tn := by
  have hg := m.2.1
  have t80 := m.2.2.1.1
  cases r with
  | inr e =>
    have v1 : v = -Int32.ofNat 1 - Int32.ofNat e.1 := m.2.2.2.2.1.1
    have et := m.2.2.2.2.2.2 e rfl
    refine ⟨v, h, ?_, fl_df_rfl, m.2.2.2.2.1, fun P z => (by cases z), m.2.2.2.2.2.2⟩
    have ne : (Int32.ofNat 0 ≤ v) = False := eq_false (by rw [v1]; exact fl_neg_le _ (by omega))
    clear m v1
    rw [fbC_84_199]
    simp (disch := omega) only [hg.1, fl_KM, fl_RM, fl_lit, fl_nadd, fl_nmul, fl_ndiv, fl_nsub, fl_msub, fl_nle, fl_nlt, fl_neq, fl_nclamp, fl_nin, fl_ltT, fl_ltF, fl_leT, fl_leF, fl_eqT, fl_eqF, decide_true, decide_false, Bool.true_and, Bool.and_true, Bool.false_and, Bool.and_false, if_true, if_false, Bool.false_eq_true, Option.isSome_some, Option.getD_some, not_true_eq_false, not_false_eq_true, Option.toList_some, Option.toList_none, List.cons_append, List.nil_append, ne]
  | inl P =>
    have v1 : v = Int32.ofNat 0 := m.2.2.2.2.1.1
    have e5 := m.2.2.2.2.1.2.1
    have mr := m.2.2.2.2.1.2.2
    obtain ⟨pt, L0, w, ww, R'⟩ := m.2.2.2.2.2.1 P rfl
    have g40 : P.2 (40 + P.2 0) = 2 := R'.2.2.2.2.2.1.2.2.2
    subst v1
    by_cases s8 : s = 8
    · subst s8
      have c12 := m.2.2.2.1
      have d0 : fl_df (fun q j => q = 259 ∧ j = 12) h (fl_wi h 259 (fl_up (fl_i h 259) 12 (Int32.ofNat (R + 1)))) := fl_df_wiu fl_df_rfl ⟨rfl, rfl⟩
      have v0 : fl_i (fl_wi h 259 (fl_up (fl_i h 259) 12 (Int32.ofNat (R + 1)))) 259 12 = Int32.ofNat (R + 1) := by rw [fl_i_wi, if_pos rfl, fl_up_self]
      generalize q0 : fl_wi h 259 (fl_up (fl_i h 259) 12 (Int32.ofNat (R + 1))) = h0 at *
      have g0 := fl_df_g hg d0
      have x0 := fl_xT_df m.2.2.1 d0 (by omega) (fun j => by omega)
      have a5 : fl_i h0 259 5 = Int32.ofNat P.1 := by rw [(d0.2.2.2 259 5 (by omega)).1]; exact e5
      have t := fr_80 sk (fl_df_st d0 m.1 (fun q j z => by omega)) g0 x0 a5 (by omega) (i := 4) (by omega)
      rw [show 1048576 + 4 = 1048580 from rfl] at t
      have nn : ∃ A V x h1, fl_cl fl_C 80 [.ref 259, .ref 1048580] h0 = some (some (some (.int x)), h1) ∧ (if Int32.ofNat 0 ≤ x then x else Int32.ofNat 2) = Int32.ofNat V ∧ fl_df (fun q j => q = 259 ∧ j = 5) h0 h1 ∧ fl_i h1 259 5 = Int32.ofNat A ∧ fl_rend tx tn 8 P = .inl (A, fl_gc P.2 V) := by
        by_cases q : P.1 < tn ∧ (tx P.1 = 48 ∨ tx P.1 = 49)
        · have t8 := (x0.2.2 P.1 q.1).1
          obtain ⟨y, ey, dy, y5⟩ := t.1 (tx P.1 - 48) (by omega) q.1 (by rw [fl_ix4 _ t8, if_pos q.2])
          refine ⟨P.1 + 1, tx P.1 - 48, _, y, ey, ?_, dy, y5, ?_⟩
          · have q2 := q.2
            rw [if_pos (by rw [fl_nle (by omega) (by omega)]; omega)]
          · unfold fl_rend
            rw [if_pos ⟨rfl, q⟩]
        · obtain ⟨y, ey, dy, y5⟩ := t.2 (fun z => by rw [fl_ix4 _ (x0.2.2 P.1 z).1, if_neg (fun z2 => q ⟨z, z2⟩)])
          refine ⟨P.1, 2, _, y, ey, if_neg (by decide), dy, y5, ?_⟩
          unfold fl_rend
          rw [if_neg (fun z => q z.2)]
      obtain ⟨A, V, xx, h1, e80, xv, d1, a1, rd⟩ := nn
      have g1 := fl_df_g g0 d1
      have m1 : fl_mr h1 P.2 := fl_mr_df (fl_mr_df mr d0 (fun j => by omega)) d1 (fun j => by omega)
      have u2 := fl_mr_w m1 (j := 40 + L) V
      generalize q2 : fl_wi h1 262 (fl_up (fl_i h1 262) (504 + (40 + L)) (Int32.ofNat V)) = h2 at *
      have g2 := fl_df_g g1 u2.1
      have u3 := fl_mr_w u2.2 (j := 0) (L + 1)
      generalize q3 : fl_wi h2 262 (fl_up (fl_i h2 262) (504 + 0) (Int32.ofNat (L + 1))) = h3 at *
      have dT : fl_df fl_Srf h h3 := fl_df_tr (fl_df_mo d0 (fun q j z => by omega)) (fl_df_tr (fl_df_mo d1 (fun q j z => by omega)) (fl_df_tr (fl_df_mo u2.1 (fun q j z => by omega)) (fl_df_mo u3.1 (fun q j z => by omega))))
      have eb : fl_bnd (.inl P) (fl_rend tx tn 8) = .inl (A, fl_gc P.2 V) := rd
      refine ⟨Int32.ofNat 0, h3, ?_, dT, ?_, fun P' z => ?_, fun e z => by rw [eb] at z; cases z⟩
      · have l2 : fl_i h2 262 504 = Int32.ofNat L := by
          have := u2.2 0 (by omega)
          rw [fl_up_ne (by omega), L0] at this
          exact this
        rw [show 504 + (40 + L) = 544 + L by omega] at q2
        rw [show 504 + 0 = 504 from rfl] at q3
        have st : fl_ca fl_C 84 229 [some (.ref 259), some (.int (Int32.ofNat L))] [] [] (some (some (some (.int xx)), h1)) = fl_Rn fl_C 84 252 [some (.ref 259)] [] h2 := by
          clear m mr R' d0 v0 x0 t d1 m1 u2 u3 dT eb rd
          by_cases z : Int32.ofNat 0 ≤ xx
          · rw [if_pos z] at xv
            subst xv
            have z' := eq_true z
            rw [fbP_84_229]
            simp (disch := omega) only [fl_si_wi, g1.1, g1.2, fl_KM, fl_RM, fl_lit, z', fl_nadd, fl_nin, fl_nclamp, decide_true, if_true, Bool.true_and, Bool.and_true, Option.isSome_some, Option.getD_some, fl_ltT, q2]
          · rw [if_neg z] at xv
            have z' := eq_false z
            rw [← xv] at q2
            rw [fbP_84_229]
            simp (disch := omega) only [fl_si_wi, g1.1, g1.2, fl_KM, fl_RM, fl_lit, fl_nadd, fl_nmul, fl_ndiv, fl_nsub, fl_msub, fl_nle, fl_nlt, fl_neq, fl_nclamp, fl_nin, fl_ltT, fl_ltF, fl_leT, fl_leF, fl_eqT, fl_eqF, decide_true, decide_false, Bool.true_and, Bool.and_true, Bool.false_and, Bool.and_false, if_true, if_false, Bool.false_eq_true, Option.isSome_some, Option.getD_some, not_true_eq_false, not_false_eq_true, Option.toList_some, Option.toList_none, List.cons_append, List.nil_append, z', q2]
        clear m mr R' v0 x0 t m1 u2 u3 dT eb rd d0 d1
        rw [fbC_84_199]
        simp (disch := omega) only [fl_si_wi, hg.1, g0.1, g2.1, g2.2, fl_KM, fl_RM, fl_lit, fl_nadd, fl_nmul, fl_ndiv, fl_nsub, fl_msub, fl_nle, fl_nlt, fl_neq, fl_nclamp, fl_nin, fl_ltT, fl_ltF, fl_leT, fl_leF, fl_eqT, fl_eqF, decide_true, decide_false, Bool.true_and, Bool.and_true, Bool.false_and, Bool.and_false, if_true, if_false, Bool.false_eq_true, Option.isSome_some, Option.getD_some, not_true_eq_false, not_false_eq_true, Option.toList_some, Option.toList_none, List.cons_append, List.nil_append, c12, q0, fbC_84_223, e80, st, fbC_84_252, l2, q3, fbC_84_264]
      · rw [eb]
        refine ⟨rfl, ?_, fl_mr_eq u3.2 (fun j hj => ?_)⟩
        · rw [(u3.1.2.2.2 259 5 (by omega)).1, (u2.1.2.2.2 259 5 (by omega)).1]; exact a1
        · show fl_gc P.2 V j = _
          unfold fl_gc
          rw [L0]
      · rw [(u3.1.2.2.2 259 12 (by omega)).1, (u2.1.2.2.2 259 12 (by omega)).1, (d1.2.2.2 259 12 (by omega)).1, v0]
        rfl
    · have eb : fl_bnd (.inl P) (fl_rend tx tn s) = .inl (P.1, fl_gc P.2 2) := if_neg (fun z => s8 z.1)
      have u3 := fl_mr_w mr (j := 0) (L + 1)
      generalize q3 : fl_wi h 262 (fl_up (fl_i h 262) (504 + 0) (Int32.ofNat (L + 1))) = h3 at *
      refine ⟨Int32.ofNat 0, h3, ?_, fl_df_mo u3.1 (fun q j z => by omega), ?_, fun P' z => ?_, fun e z => by rw [eb] at z; cases z⟩
      · have l2 : fl_i h 262 504 = Int32.ofNat L := by
          have := mr 0 (by omega)
          rw [L0] at this
          exact this
        rw [show 504 + 0 = 504 from rfl] at q3
        clear m mr R' u3 eb
        rw [fbC_84_199]
        simp (disch := omega) only [fl_si_wi, hg.1, hg.2, fl_KM, fl_RM, fl_lit, fl_nadd, fl_nmul, fl_ndiv, fl_nsub, fl_msub, fl_nle, fl_nlt, fl_neq, fl_nclamp, fl_nin, fl_ltT, fl_ltF, fl_leT, fl_leF, fl_eqT, fl_eqF, decide_true, decide_false, Bool.true_and, Bool.and_true, Bool.false_and, Bool.and_false, if_true, if_false, Bool.false_eq_true, Option.isSome_some, Option.getD_some, not_true_eq_false, not_false_eq_true, Option.toList_some, Option.toList_none, List.cons_append, List.nil_append, fbC_84_252, l2, q3, fbC_84_264]
      · rw [eb]
        refine ⟨rfl, by rw [(u3.1.2.2.2 259 5 (by omega)).1]; exact e5, fl_mr_eq u3.2 (fun j hj => ?_)⟩
        show fl_gc P.2 2 j = _
        unfold fl_gc
        by_cases z0 : j = 0
        · subst z0
          rw [fl_up_self, fl_up_self, L0]
        · rw [fl_up_ne z0, fl_up_ne z0]
          by_cases z1 : j = 40 + P.2 0
          · rw [z1, fl_up_self, g40]
          · rw [fl_up_ne z1]
      · rw [(u3.1.2.2.2 259 12 (by omega)).1, m.2.2.2.1, decide_eq_false s8]
        rfl
theorem fl_rpin_rg {P' : fl_Ps} (q : fl_rpin tx tn s P = .inl P') (R : fl_RQ s W w P.2) : fl_rgs P'.2 = fl_rgs P.2 := by
  have g20 := R.2.2.2.2.1.2
  have g12 := R.2.2.2.1
  unfold fl_rpin at q
  split at q
  · cases q
  · split at q
    · cases q
    · split at q
      · cases q
      · cases q
        unfold fl_rgs
        dsimp only
        rw [show fl_gp P.2 (fl_ltr tx tn P.1) 0 = P.2 0 from fl_gp_ne (by omega)]
        refine fl_cnt_congr (fun i hi => ?_)
        show decide (fl_gp P.2 (fl_ltr tx tn P.1) (4 + i) = 8) = _
        rw [fl_gp_ne (by omega)]
theorem fl_rgs_l {P' : fl_Ps} (R : fl_RQ s W w P.2) (e : fl_bnd (fl_bnd (fl_bnd (fl_rpin tx tn s P) (fl_rpin2 tx tn s)) (fl_rpin3 tx tn s)) (fl_rend tx tn s) = .inl P') : fl_rgs P'.2 = fl_rgs P.2 + (decide (s = 8)).toNat := by
  obtain ⟨P3, e3, f3⟩ := fl_bnd_inl e
  obtain ⟨P2, e2, f2⟩ := fl_bnd_inl e3
  obtain ⟨P1, e1, f1⟩ := fl_bnd_inl e2
  have R1 := (fl_rpin_ok e1 R).1
  have r1 := fl_rpin_rg e1 R
  have R2 : (∃ w, fl_RQ s W w P2.2) ∧ fl_rgs P2.2 = fl_rgs P1.2 := by
    unfold fl_rpin2 at f1
    split at f1
    · exact ⟨⟨_, (fl_rpin_ok f1 R1).1⟩, fl_rpin_rg f1 R1⟩
    · cases f1; exact ⟨⟨_, R1⟩, rfl⟩
  obtain ⟨⟨w2, R2⟩, r2⟩ := R2
  have R3 : (∃ w, fl_RQ s W w P3.2) ∧ fl_rgs P3.2 = fl_rgs P2.2 := by
    unfold fl_rpin3 at f2
    split at f2
    · exact ⟨⟨_, (fl_rpin_ok f2 R2).1⟩, fl_rpin_rg f2 R2⟩
    · cases f2; exact ⟨⟨_, R2⟩, rfl⟩
  obtain ⟨⟨w3, R3⟩, r3⟩ := R3
  have gc : ∀ v, fl_rgs (fl_gc P3.2 v) = fl_rgs P3.2 + (decide (s = 8)).toNat := fun v => by
    have g12 := R3.2.2.2.1
    have c4 := R3.2.2.2.2.2.1.1
    unfold fl_rgs
    rw [fl_gc_at.1, fl_cnt, fl_gc_ne (j := 4 + P3.2 0) (by omega), c4]
    have ec : fl_cnt (fun k => decide (fl_gc P3.2 v (4 + k) = 8)) (P3.2 0) = fl_cnt (fun k => decide (P3.2 (4 + k) = 8)) (P3.2 0) := fl_cnt_congr (fun i hi => by rw [fl_gc_ne (by omega)])
    rw [ec]
  unfold fl_rend at f3
  split at f3
  · cases f3
    rw [gc, r3, r2, r1]
  · cases f3
    rw [gc, r3, r2, r1]
theorem fr_84 (sk : fl_sk k0 i0) (hs : fl_st k0 i0 h) (hg : fl_g k0 h) (x : fl_xT h tn tx) (e5 : fl_i h 259 5 = Int32.ofNat P.1) (m : fl_mr h P.2) (c12 : fl_i h 259 12 = Int32.ofNat (fl_rgs P.2)) (I : fl_RI P.2) (pt : P.1 ≤ tn) : ∃ v y, fl_cl fl_C 84 [.ref 259] h = some (some (some (.int v)), y) ∧ fl_df fl_Srf h y ∧ fl_rrd y v (fl_rline tx tn P) ∧ (∀ P', fl_rline tx tn P = .inl P' → fl_i y 259 12 = Int32.ofNat (fl_rgs P'.2)) ∧ ∀ e, fl_rline tx tn P = .inr e → e.1 ≤ tn := by
  have t80 := x.1
  have p1 := I.1.1
  have rg : fl_rgs P.2 ≤ 3 := I.1.2.2.2.2.2.2.2.2.2
  have s8 := fl_sra_8 (tx := tx) (tn := tn) (a := P.1)
  have lt := fl_sra_lt (tx := tx) (tn := tn) (a := P.1)
  have L0 : fl_i h 262 504 = Int32.ofNat (P.2 0) := m 0 (by omega)
  have e78 := fr_78 sk hs hg x e5 (by omega) (i := 0) (by omega)
  have df' : ∀ {y : fl_H}, fl_df (fun q j => (q = 259 ∧ j = 11) ∨ q = 264 ∨ q = 265) h y → fl_df fl_Srf h y := fun d => fl_df_mo d (fun q j z => by omega)
  have sx : (if P.1 < tn then fl_ix 0 (tx P.1) else -Int32.ofNat 1) + Int32.ofNat 1 = Int32.ofNat (fl_sra tx tn P.1) := by
    unfold fl_sra
    by_cases q : P.1 < tn
    · rw [if_pos q, if_pos q]
      exact fl_ix0 _ (x.2.2 P.1 q).1
    · rw [if_neg q, if_neg q]; decide
  rw [Nat.add_zero] at e78
  generalize (if P.1 < tn then fl_ix 0 (tx P.1) else -Int32.ofNat 1) = X at *
  have rl : fl_rline tx tn P = fl_rline tx tn P := rfl
  unfold fl_rline at rl ⊢
  generalize fl_sra tx tn P.1 = s at *
  by_cases c1 : s = 0
  · rw [if_pos c1]
    obtain ⟨y, ey, dy, cy⟩ := fr_82 (n := 0) hg e5 (P.2 0) false (by omega) (k := 3) (by omega)
    rw [if_neg (by decide)] at ey
    refine ⟨_, y, ?_, df' dy, ⟨rfl, cy⟩, fun P' z => (by cases z), fun e z => by cases z; exact pt⟩
    subst c1
    clear x m I hs dy cy rl
    rw [fbE_84]
    simp (disch := omega) only [hg.1, hg.2, fl_KM, fl_RM, fl_lit, fl_nadd, fl_nmul, fl_ndiv, fl_nsub, fl_msub, fl_nle, fl_nlt, fl_neq, fl_nclamp, fl_nin, fl_ltT, fl_ltF, fl_leT, fl_leF, fl_eqT, fl_eqF, decide_true, decide_false, Bool.true_and, Bool.and_true, Bool.false_and, Bool.and_false, if_true, if_false, Bool.false_eq_true, Option.isSome_some, Option.getD_some, not_true_eq_false, not_false_eq_true, Option.toList_some, Option.toList_none, List.cons_append, List.nil_append, L0, e78, fbP_84_15, sx, ey, fbP_84_30]
  · rw [if_neg c1]
    by_cases c2 : P.2 0 = 12 ∨ (s = 8 ∧ fl_rgs P.2 = 3)
    · rw [if_pos c2]
      obtain ⟨y, ey, dy, cy⟩ := fr_82 (n := 0) hg e5 (P.2 0) true (by omega) (k := 4) (by omega)
      rw [if_pos rfl] at ey
      refine ⟨_, y, ?_, df' dy, ⟨rfl, cy⟩, fun P' z => (by cases z), fun e z => by cases z; exact pt⟩
      clear x m I hs dy cy rl
      generalize fl_rgs P.2 = RR at *
      generalize P.2 0 = LL at *
      rcases c2 with c2 | ⟨c2, c3⟩
      · subst c2
        rw [fbE_84]
        simp (disch := omega) only [hg.1, hg.2, fl_KM, fl_RM, fl_lit, fl_nadd, fl_nmul, fl_ndiv, fl_nsub, fl_msub, fl_nle, fl_nlt, fl_neq, fl_nclamp, fl_nin, fl_ltT, fl_ltF, fl_leT, fl_leF, fl_eqT, fl_eqF, decide_true, decide_false, Bool.true_and, Bool.and_true, Bool.false_and, Bool.and_false, if_true, if_false, Bool.false_eq_true, Option.isSome_some, Option.getD_some, not_true_eq_false, not_false_eq_true, Option.toList_some, Option.toList_none, List.cons_append, List.nil_append, L0, e78, fbP_84_15, sx, fbC_84_51, ey, fbP_84_59]
      · subst c2
        subst c3
        by_cases l12 : LL = 12
        · rw [fbE_84]
          simp (disch := omega) only [hg.1, hg.2, fl_KM, fl_RM, fl_lit, fl_nadd, fl_nmul, fl_ndiv, fl_nsub, fl_msub, fl_nle, fl_nlt, fl_neq, fl_nclamp, fl_nin, fl_ltT, fl_ltF, fl_leT, fl_leF, fl_eqT, fl_eqF, decide_true, decide_false, Bool.true_and, Bool.and_true, Bool.false_and, Bool.and_false, if_true, if_false, Bool.false_eq_true, Option.isSome_some, Option.getD_some, not_true_eq_false, not_false_eq_true, Option.toList_some, Option.toList_none, List.cons_append, List.nil_append, L0, e78, fbP_84_15, sx, fbC_84_51, ey, fbP_84_59]
        · rw [fbE_84]
          simp (disch := omega) only [hg.1, hg.2, fl_KM, fl_RM, fl_lit, fl_nadd, fl_nmul, fl_ndiv, fl_nsub, fl_msub, fl_nle, fl_nlt, fl_neq, fl_nclamp, fl_nin, fl_ltT, fl_ltF, fl_leT, fl_leF, fl_eqT, fl_eqF, decide_true, decide_false, Bool.true_and, Bool.and_true, Bool.false_and, Bool.and_false, if_true, if_false, Bool.false_eq_true, Option.isSome_some, Option.getD_some, not_true_eq_false, not_false_eq_true, Option.toList_some, Option.toList_none, List.cons_append, List.nil_append, L0, e78, fbP_84_15, sx, c12, fbC_84_51, ey, fbP_84_59]
    · rw [if_neg c2]
      have l12 : P.2 0 < 12 := by omega
      have a1 := lt c1
      have R0 : fl_RQ s (P.2 2) 0 (fl_go P.2 s) := fl_RQ_go I l12 (by omega) (fun z => by omega)
      have d0 : fl_df (fun q j => q = 259 ∧ j = 5) h (fl_wi h 259 (fl_up (fl_i h 259) 5 (Int32.ofNat (P.1 + 1)))) := fl_df_wiu fl_df_rfl ⟨rfl, rfl⟩
      have v0 : fl_i (fl_wi h 259 (fl_up (fl_i h 259) 5 (Int32.ofNat (P.1 + 1)))) 259 5 = Int32.ofNat (P.1 + 1) := by rw [fl_i_wi, if_pos rfl, fl_up_self]
      generalize q0 : fl_wi h 259 (fl_up (fl_i h 259) 5 (Int32.ofNat (P.1 + 1))) = h0 at *
      have g0 := fl_df_g hg d0
      have m0 : fl_mr h0 P.2 := fl_mr_df m d0 (fun j => by omega)
      have u1 := fl_mr_w m0 (j := 4 + P.2 0) s
      generalize q1 : fl_wi h0 262 (fl_up (fl_i h0 262) (504 + (4 + P.2 0)) (Int32.ofNat s)) = h1 at *
      have g1 := fl_df_g g0 u1.1
      have u2 := fl_mr_w u1.2 (j := 16 + P.2 0) (P.2 2)
      generalize q2 : fl_wi h1 262 (fl_up (fl_i h1 262) (504 + (16 + P.2 0)) (Int32.ofNat (P.2 2))) = h2 at *
      have g2 := fl_df_g g1 u2.1
      have u3 := fl_mr_w u2.2 (j := 28 + P.2 0) 0
      generalize q3 : fl_wi h2 262 (fl_up (fl_i h2 262) (504 + (28 + P.2 0)) (Int32.ofNat 0)) = h3 at *
      have g3 := fl_df_g g2 u3.1
      have u4 := fl_mr_w u3.2 (j := 40 + P.2 0) 2
      generalize q4 : fl_wi h3 262 (fl_up (fl_i h3 262) (504 + (40 + P.2 0)) (Int32.ofNat 2)) = h4 at *
      have g4 := fl_df_g g3 u4.1
      have dT : fl_df (fun q j => (q = 262 ∧ 504 ≤ j) ∨ (q = 259 ∧ j = 5)) h h4 := fl_df_tr (fl_df_mo d0 (fun q j z => Or.inr z)) (fl_df_tr (fl_df_mo u1.1 (fun q j z => Or.inl z)) (fl_df_tr (fl_df_mo u2.1 (fun q j z => Or.inl z)) (fl_df_tr (fl_df_mo u3.1 (fun q j z => Or.inl z)) (fl_df_mo u4.1 (fun q j z => Or.inl z)))))
      have m2 : fl_i h1 262 506 = Int32.ofNat (P.2 2) := by
        have := u1.2 2 (by omega)
        rw [fl_up_ne (by omega)] at this
        exact this
      have e0 : fl_go P.2 s 0 = P.2 0 := fl_go_ne (by omega)
      have a4 : fl_i h4 259 5 = Int32.ofNat (P.1 + 1) := by rw [(u4.1.2.2.2 259 5 (by omega)).1, (u3.1.2.2.2 259 5 (by omega)).1, (u2.1.2.2.2 259 5 (by omega)).1, (u1.1.2.2.2 259 5 (by omega)).1]; exact v0
      have M0 : fl_mdr k0 i0 tx tn s (P.2 2) (P.2 0) (Int32.ofNat (fl_rgs P.2)) (fun w => w = 0) h4 (Int32.ofNat 0) (.inl (P.1 + 1, fl_go P.2 s)) := ⟨fl_df_st dT hs (fun q j z => by omega), g4, fl_xT_df x dT (by omega) (fun j => by omega), by rw [(dT.2.2.2 259 12 (by omega)).1]; exact c12, ⟨rfl, a4, u4.2⟩, fun P' z => by cases z; exact ⟨by dsimp only; omega, e0, 0, rfl, R0⟩, fun e z => by cases z⟩
      obtain ⟨v5, y5, e5', d5, M5⟩ := fr_83m sk (ws' := fun w => w = 1) M0 (fun w z => by omega)
      obtain ⟨v6, y6, e6, d6, M6⟩ := fr_84a sk M5 (by omega) l12
      obtain ⟨v7, y7, e7, d7, M7⟩ := fr_84b sk M6 (by omega) l12
      obtain ⟨v8, y8, e8, d8, M8, C8, B8⟩ := fr_84c sk (by omega) M7 (by omega) l12
      refine ⟨v8, y8, ?_, fl_df_tr (fl_df_mo dT (fun q j z => by omega)) (fl_df_tr d5 (fl_df_tr d6 (fl_df_tr d7 d8))), M8, fun P' z => ?_, B8⟩
      · have st : fl_cl fl_C 84 [.ref 259] h = fl_ca fl_C 84 140 [some (.ref 259), some (.int (Int32.ofNat (P.2 0))), some (.int (Int32.ofNat s)), some (.int (Int32.ofNat (if s = 8 then 12 else P.2 0)))] [] [] (some (some (some (.int v5)), y5)) := by
          rw [show 504 + (4 + P.2 0) = 508 + P.2 0 by omega] at q1
          rw [show 504 + (16 + P.2 0) = 520 + P.2 0 by omega] at q2
          rw [show 504 + (28 + P.2 0) = 532 + P.2 0 by omega] at q3
          rw [show 504 + (40 + P.2 0) = 544 + P.2 0 by omega] at q4
          clear x m I hs rl d0 v0 m0 u1 u2 u3 u4 dT a4 M0 d5 M5 d6 M6 d7 M7 d8 M8 C8 B8 R0 e6 e7 e8 e0
          generalize fl_rgs P.2 = RR at *
          generalize P.2 0 = LL at *
          generalize P.2 2 = PP at *
          have pre : fl_cl fl_C 84 [.ref 259] h = fl_Rn fl_C 84 121 [some (.ref 259), some (.int (Int32.ofNat LL)), some (.int (Int32.ofNat s))] [] h4 := by
            clear e5'
            have mid : fl_Rn fl_C 84 60 [some (.ref 259), some (.int (Int32.ofNat LL)), some (.int (Int32.ofNat s))] [] h = fl_Rn fl_C 84 121 [some (.ref 259), some (.int (Int32.ofNat LL)), some (.int (Int32.ofNat s))] [] h4 := by
              rw [fbC_84_60]
              simp (disch := omega) only [fl_si_wi, hg.1, g0.1, g0.2, g1.1, g1.2, g2.1, g2.2, g3.1, g3.2, fl_KM, fl_RM, fl_lit, fl_nadd, fl_nmul, fl_ndiv, fl_nsub, fl_msub, fl_nle, fl_nlt, fl_neq, fl_nclamp, fl_nin, fl_ltT, fl_ltF, fl_leT, fl_leF, fl_eqT, fl_eqF, decide_true, decide_false, Bool.true_and, Bool.and_true, Bool.false_and, Bool.and_false, if_true, if_false, Bool.false_eq_true, Option.isSome_some, Option.getD_some, not_true_eq_false, not_false_eq_true, Option.toList_some, Option.toList_none, List.cons_append, List.nil_append, e5, q0, fbC_84_70, q1, fbC_84_81, fbC_84_90, m2, fbC_84_98, q2, fbC_84_99, q3, fbC_84_110, q4]
            by_cases z8 : s = 8
            · subst z8
              have r3 : RR < 3 := by omega
              rw [fbE_84]
              simp (disch := omega) only [hg.1, hg.2, fl_KM, fl_RM, fl_lit, fl_nadd, fl_nmul, fl_ndiv, fl_nsub, fl_msub, fl_nle, fl_nlt, fl_neq, fl_nclamp, fl_nin, fl_ltT, fl_ltF, fl_leT, fl_leF, fl_eqT, fl_eqF, decide_true, decide_false, Bool.true_and, Bool.and_true, Bool.false_and, Bool.and_false, if_true, if_false, Bool.false_eq_true, Option.isSome_some, Option.getD_some, not_true_eq_false, not_false_eq_true, Option.toList_some, Option.toList_none, List.cons_append, List.nil_append, L0, e78, fbP_84_15, sx, c12, mid]
            · rw [fbE_84]
              simp (disch := omega) only [hg.1, hg.2, fl_KM, fl_RM, fl_lit, fl_nadd, fl_nmul, fl_ndiv, fl_nsub, fl_msub, fl_nle, fl_nlt, fl_neq, fl_nclamp, fl_nin, fl_ltT, fl_ltF, fl_leT, fl_leF, fl_eqT, fl_eqF, decide_true, decide_false, Bool.true_and, Bool.and_true, Bool.false_and, Bool.and_false, if_true, if_false, Bool.false_eq_true, Option.isSome_some, Option.getD_some, not_true_eq_false, not_false_eq_true, Option.toList_some, Option.toList_none, List.cons_append, List.nil_append, L0, e78, fbP_84_15, sx, mid]
          rw [pre]
          clear pre
          by_cases z8 : s = 8
          · subst z8
            rw [if_pos rfl] at e5' ⊢
            rw [fbC_84_121]
            simp (disch := omega) only [g4.1, fl_KM, fl_RM, fl_lit, fl_nadd, fl_nmul, fl_ndiv, fl_nsub, fl_msub, fl_nle, fl_nlt, fl_neq, fl_nclamp, fl_nin, fl_ltT, fl_ltF, fl_leT, fl_leF, fl_eqT, fl_eqF, decide_true, decide_false, Bool.true_and, Bool.and_true, Bool.false_and, Bool.and_false, if_true, if_false, Bool.false_eq_true, Option.isSome_some, Option.getD_some, not_true_eq_false, not_false_eq_true, Option.toList_some, Option.toList_none, List.cons_append, List.nil_append, e5']
          · rw [if_neg z8] at e5' ⊢
            rw [fbC_84_121]
            simp (disch := omega) only [g4.1, fl_KM, fl_RM, fl_lit, fl_nadd, fl_nmul, fl_ndiv, fl_nsub, fl_msub, fl_nle, fl_nlt, fl_neq, fl_nclamp, fl_nin, fl_ltT, fl_ltF, fl_leT, fl_leF, fl_eqT, fl_eqF, decide_true, decide_false, Bool.true_and, Bool.and_true, Bool.false_and, Bool.and_false, if_true, if_false, Bool.false_eq_true, Option.isSome_some, Option.getD_some, not_true_eq_false, not_false_eq_true, Option.toList_some, Option.toList_none, List.cons_append, List.nil_append, e5']
        rw [st, e6, e7, e8]
      · have eg : fl_rgs (fl_go P.2 s) = fl_rgs P.2 := by
          unfold fl_rgs
          rw [e0]
          exact fl_cnt_congr (fun i hi => by rw [fl_go_ne (by omega)])
        rw [C8 P' z, fl_rgs_l R0 z]
        rw [eg]
end
