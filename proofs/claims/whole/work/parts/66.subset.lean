/-! SOME TICKS of a run alone: whether they detect all that is detected -/
def fl_kp (K : Nat → Bool) (pt : Nat → Nat) : Nat → Nat → Nat
  | 0 => fun _ => 0
  | t + 1 => if K t = true then fl_up (fl_kp K pt t) (fl_cnt K t) (pt t) else fl_kp K pt t
theorem fl_kp_st {K : Nat → Bool} {pt : Nat → Nat} {t i : Nat} (hi : i < fl_cnt K t) : ∀ d, fl_kp K pt (t + d) i = fl_kp K pt t i ∧ fl_cnt K t ≤ fl_cnt K (t + d)
  | 0 => ⟨rfl, Nat.le_refl _⟩
  | d + 1 => by
    have ih := fl_kp_st (pt := pt) hi d
    rw [show t + (d + 1) = (t + d) + 1 from rfl, fl_kp, fl_cnt]
    refine ⟨?_, by omega⟩
    by_cases e : K (t + d) = true
    · rw [if_pos e, fl_up_ne (by omega)]; exact ih.1
    · rw [if_neg e]; exact ih.1
theorem fl_cnt_mono {K : Nat → Bool} {a b : Nat} (h : a ≤ b) : fl_cnt K a ≤ fl_cnt K b := by
  obtain ⟨d, rfl⟩ := Nat.exists_eq_add_of_le h
  induction d with
  | zero => exact Nat.le_refl _
  | succ d ih => rw [show a + (d + 1) = (a + d) + 1 from rfl, fl_cnt]; have := ih (by omega); omega
theorem fl_kp_at {K : Nat → Bool} {pt : Nat → Nat} {t n : Nat} (hk : K t = true) (h : t < n) : fl_kp K pt n (fl_cnt K t) = pt t ∧ fl_cnt K t < fl_cnt K n := by
  obtain ⟨d, rfl⟩ := Nat.exists_eq_add_of_le (show t + 1 ≤ n from h)
  have e : fl_cnt K (t + 1) = fl_cnt K t + 1 := by rw [fl_cnt, hk]; rfl
  have s := fl_kp_st (K := K) (pt := pt) (t := t + 1) (i := fl_cnt K t) (by omega) d
  refine ⟨?_, by omega⟩
  rw [s.1, fl_kp, if_pos hk, fl_up_self]
theorem fl_kp_ok {g pt : Nat → Nat} {K : Nat → Bool} {N : Nat} (ok : fl_okp g pt N) : ∀ n, n ≤ N → fl_okp g (fl_kp K pt n) (fl_cnt K n)
  | 0, _ => fun i hi => absurd hi (Nat.not_lt_zero i)
  | n + 1, h => fun i hi => by
    have ih := fl_kp_ok (K := K) ok n (by omega)
    rw [fl_cnt] at hi
    rw [fl_kp]
    by_cases e : K n = true
    · rw [if_pos e]
      rw [e] at hi
      by_cases c : i = fl_cnt K n
      · rw [c, fl_up_self]; exact ok n (by omega)
      · rw [fl_up_ne c]; exact ih i (by simp only [Bool.toNat_true] at hi; omega)
    · rw [if_neg e]
      have e' : K n = false := by cases z : K n; rfl; exact absurd z e
      rw [e'] at hi
      exact ih i hi
theorem fl_kp_cg {K K' : Nat → Bool} {pt : Nat → Nat} : ∀ {n : Nat}, (∀ t, t < n → K t = K' t) → fl_kp K pt n = fl_kp K' pt n
  | 0, _ => rfl
  | n + 1, h => by rw [fl_kp, fl_kp, fl_kp_cg (n := n) (fun t ht => h t (by omega)), h n (by omega), fl_cnt_congr (n := n) (fun t ht => h t (by omega))]
theorem fl_any_mono {q : Nat → Bool} {a b : Nat} (h : a ≤ b) (e : fl_any q a = true) : fl_any q b = true := by
  obtain ⟨k, hk, hq⟩ := fl_any_iff.mp e
  exact fl_any_iff.mpr ⟨k, by omega, hq⟩
/-- what was detected and is missed, behind some of the ticks -/
def fl_mis (g : Nat → Nat) (K : Nat → Bool) (t : Nat) : Int64 := fl_B (fun c => (fl_lvf g c && fl_any (fl_shn g c (fl_ps g)) (g 76)) && !fl_any (fl_shn g c (fl_kp K (fl_ps g) (g 76))) (fl_cnt K t))
def fl_en (g : Nat → Nat) (K : Nat → Bool) : Bool := decide (fl_mis g K (g 76) = 0)
theorem fl_mis_cg {g : Nat → Nat} {K K' : Nat → Bool} (h : ∀ t, t < g 76 → K t = K' t) : fl_en g K = fl_en g K' := by
  unfold fl_en fl_mis
  rw [fl_kp_cg h, fl_cnt_congr h]
theorem fl_mis_0 {g : Nat → Nat} {K : Nat → Bool} {t : Nat} (ht : t ≤ g 76) (e : fl_mis g K t = 0) : fl_mis g K (g 76) = 0 := by
  unfold fl_mis at *
  rw [fl_B_eq0] at *
  refine fl_any_ff (fun c hc => ?_)
  have := fl_any_none e hc
  cases z : (fl_lvf g c && fl_any (fl_shn g c (fl_ps g)) (g 76)) with
  | false => rfl
  | true =>
    rw [z, Bool.true_and, Bool.not_eq_false'] at this
    rw [Bool.true_and, Bool.not_eq_false']
    exact fl_any_mono (fl_cnt_mono ht) this
theorem fl_mis_st {g : Nat → Nat} {K : Nat → Bool} {t : Nat} (hk : K t = true) : (fl_mis g K t &&& (fl_B (fun c => fl_lvf g c && fl_shn g c (fl_kp K (fl_ps g) (g 76)) (fl_cnt K t)) ^^^ (-1))) = fl_mis g K (t + 1) := by
  unfold fl_mis
  rw [fl_B_not, fl_B_and, fl_cnt, hk]
  refine fl_B_congr fun c _ => ?_
  show _ = ((fl_lvf g c && fl_any (fl_shn g c (fl_ps g)) (g 76)) && !(fl_any (fl_shn g c (fl_kp K (fl_ps g) (g 76))) (fl_cnt K t) || fl_shn g c (fl_kp K (fl_ps g) (g 76)) (fl_cnt K t)))
  cases fl_lvf g c <;> cases fl_any (fl_shn g c (fl_ps g)) (g 76) <;> cases fl_any (fl_shn g c (fl_kp K (fl_ps g) (g 76))) (fl_cnt K t) <;> cases fl_shn g c (fl_kp K (fl_ps g) (g 76)) (fl_cnt K t) <;> rfl
theorem fl_mis_no {g : Nat → Nat} {K : Nat → Bool} {t : Nat} (hk : K t = false) : fl_mis g K (t + 1) = fl_mis g K t := by
  unfold fl_mis
  rw [fl_cnt, hk]
  rfl
theorem fl_mis_z {g : Nat → Nat} {K : Nat → Bool} : fl_mis g K 0 = fl_dt g := by
  unfold fl_mis fl_dt
  exact fl_B_congr fun c _ => by
    show (_ && !false) = _
    rw [Bool.not_false, Bool.and_true]
section
variable {k0 : Nat → Nat × Nat} {h : fl_H} {g : Nat → Nat} {c : Nat × Nat × Nat × Bool}
theorem fc_229e {X : Int64} {b : Bool} (hb : b = decide (X = 0)) : fl_Rn fl_C 229 100 [none, none, none, some (.long X)] [] h = some (some (some (.int (if b = true then Int32.ofNat 1 else Int32.ofNat 0))), h) := by
  rw [fbC_229_100, hb]
  by_cases e : X = 0
  · rw [fl_ifn (fun z => z ((lg_cmp_eq X 0).mpr e)), fl_ifd e]; rfl
  · rw [fl_ifd (show ¬ lg_cmp X 0 = 0 from fun z => e ((lg_cmp_eq X 0).mp z)), fl_ifn e]; rfl
theorem fc_229 {r : Int64} (hg : fl_g k0 h) (w : fl_wf g) (d : fl_rn h 27 g r) (M : Int32) : ∃ y, fl_df (fl_SB 183) h y ∧ fl_cl fl_C 229 [.ref 0, .int M] h = some (some (some (.int (if fl_en g (fl_hi M) = true then Int32.ofNat 1 else Int32.ofNat 0))), y) := by
  have N := fl_sk28 (k0 := k0)
  have b183 := fl_o183 (k0 := k0)
  have R := fl_o27 (k0 := k0)
  have w7 : g 76 ≤ 24 := w.1.2.2.2.2.2.2.2.1
  have nt : fl_net h 28 g := d.1
  have ok := fl_kp_ok (K := fl_hi M) (fl_okp_g w) (g 76) (Nat.le_refl _)
  have ok' : fl_okp g (fl_kp (fl_hi M) (fl_ps g) (g 76)) (fl_cnt (fl_hi M) (g 76)) := ok
  obtain ⟨y0, e27, d0, bn0⟩ := fc_bs hg N b183 w nt (by omega)
  have ntx : ∀ {x : fl_H}, fl_df (fl_SB 183) h x → fl_net x 28 g := fun a => fl_net_fr nt (fl_df_i a (fun j => by omega)) (fun q z1 z2 => fl_df_l a (fun j => by omega))
  have o27 : fl_KK k0 27 = (1, 7) ∧ fl_RR 27 0 = some 28 ∧ fl_RR 27 2 = some 60 := ⟨R.1.1, R.1.2.1, R.1.2.2.2.1⟩
  have o60 : fl_KK k0 60 = (1, 1) := R.2.2.2.1.1
  have o183 := b183.1
  have o28 := N.1.1
  have l5 : fl_l h 27 5 = fl_dt g := d.2.2.1.1
  have st : fl_cl fl_C 229 [.ref 0, .int M] h = fl_Rn fl_C 229 27 [some (.ref 0), some (.int M), some (.ref 28), some (.long (fl_mis g (fl_hi M) 0)), none, some (.int (Int32.ofNat 0))] [] y0 := by
    rw [fl_mis_z]
    clear w d ntx bn0 d0 N b183 R ok ok'
    rw [fbE_229]
    simp (disch := omega) only [hg.1, hg.2, fl_KF, fl_RF, o27, o28, o183, fl_lit, fl_nadd, fl_nmul, fl_ndiv, fl_nsub, fl_msub, fl_nle, fl_nlt, fl_neq, fl_nclamp, fl_nin, fl_ltT, fl_ltF, fl_leT, fl_leF, fl_eqT, fl_eqF, decide_true, decide_false, Bool.true_and, Bool.and_true, Bool.false_and, Bool.and_false, if_true, if_false, Bool.false_eq_true, Option.isSome_some, Option.getD_some, not_true_eq_false, not_false_eq_true, Option.toList_some, Option.toList_none, List.cons_append, List.nil_append, l5, e27, fbP_229_24]
  rw [st]
  clear st e27
  suffices fl_to (fl_Rn fl_C 229 27 [some (.ref 0), some (.int M), some (.ref 28), some (.long (fl_mis g (fl_hi M) 0)), none, some (.int (Int32.ofNat 0))] [] y0) (fun v z => v = some (.int (if fl_en g (fl_hi M) = true then Int32.ofNat 1 else Int32.ofNat 0)) ∧ fl_df (fl_SB 183) h z) by
    obtain ⟨v, z, e, rfl, dz⟩ := this
    exact ⟨z, dz, e⟩
  refine fl_loopT (F := fun t x => fl_Rn fl_C 229 27 [some (.ref 0), some (.int M), some (.ref 28), some (.long (fl_mis g (fl_hi M) t)), none, some (.int (Int32.ofNat t))] [] x) (fun t x => fl_df (fl_SB 183) h x ∧ fl_bn x 183 g (fl_cnt (fl_hi M) t) (fl_kp (fl_hi M) (fl_ps g) (g 76))) (g 76) ?_ ?_ 0 y0 (Nat.zero_le _) ⟨d0, bn0 _⟩
  · rintro x ⟨dx, bn⟩
    have gx := fl_df_g hg dx
    have i3 : fl_i x 27 3 = Int32.ofNat (g 76) := by rw [(dx.2.2.2 27 3 (by omega)).1]; exact d.2.1.1
    have e := fc_229e (h := x) (X := fl_mis g (fl_hi M) (g 76)) (b := fl_en g (fl_hi M)) rfl
    have fin : fl_Rn fl_C 229 27 [some (.ref 0), some (.int M), some (.ref 28), some (.long (fl_mis g (fl_hi M) (g 76))), none, some (.int (Int32.ofNat (g 76)))] [] x = some (some (some (.int (if fl_en g (fl_hi M) = true then Int32.ofNat 1 else Int32.ofNat 0))), x) := by
      clear w d ntx bn dx bn0 d0 N b183 R ok ok'
      rw [fbC_229_27]
      simp (disch := omega) only [gx.1, gx.2, fl_KF, fl_RF, o27, fl_lit, fl_nadd, fl_nmul, fl_ndiv, fl_nsub, fl_msub, fl_nle, fl_nlt, fl_neq, fl_nclamp, fl_nin, fl_ltT, fl_ltF, fl_leT, fl_leF, fl_eqT, fl_eqF, decide_true, decide_false, Bool.true_and, Bool.and_true, Bool.false_and, Bool.and_false, if_true, if_false, Bool.false_eq_true, Option.isSome_some, Option.getD_some, not_true_eq_false, not_false_eq_true, Option.toList_some, Option.toList_none, List.cons_append, List.nil_append, i3, e]
    exact ⟨_, _, fin, rfl, dx⟩
  · rintro t x ht ⟨dx, bn⟩ hy
    have gx := fl_df_g hg dx
    have nx := ntx dx
    have i3 : fl_i x 27 3 = Int32.ofNat (g 76) := by rw [(dx.2.2.2 27 3 (by omega)).1]; exact d.2.1.1
    by_cases z : fl_mis g (fl_hi M) t = 0
    · have en : fl_en g (fl_hi M) = true := decide_eq_true (fl_mis_0 (by omega) z)
      have e := fc_229e (h := x) (X := fl_mis g (fl_hi M) t) (b := fl_en g (fl_hi M)) (by rw [en, decide_eq_true z])
      have z' : (lg_cmp (fl_mis g (fl_hi M) t) 0 = Int32.ofNat 0) = True := by rw [fl_cmp0]; exact eq_true z
      have fin : fl_Rn fl_C 229 27 [some (.ref 0), some (.int M), some (.ref 28), some (.long (fl_mis g (fl_hi M) t)), none, some (.int (Int32.ofNat t))] [] x = some (some (some (.int (if fl_en g (fl_hi M) = true then Int32.ofNat 1 else Int32.ofNat 0))), x) := by
        clear w d ntx bn dx bn0 d0 N b183 R ok ok' hy nx z
        rw [fbC_229_27]
        simp (disch := omega) only [gx.1, gx.2, fl_KF, fl_RF, o27, fl_lit, fl_nadd, fl_nmul, fl_ndiv, fl_nsub, fl_msub, fl_nle, fl_nlt, fl_neq, fl_nclamp, fl_nin, fl_ltT, fl_ltF, fl_leT, fl_leF, fl_eqT, fl_eqF, decide_true, decide_false, Bool.true_and, Bool.and_true, Bool.false_and, Bool.and_false, if_true, if_false, Bool.false_eq_true, Option.isSome_some, Option.getD_some, not_true_eq_false, not_false_eq_true, Option.toList_some, Option.toList_none, List.cons_append, List.nil_append, i3, z', e]
      exact ⟨_, _, fin, rfl, dx⟩
    · have z' : (lg_cmp (fl_mis g (fl_hi M) t) 0 = Int32.ofNat 0) = False := by rw [fl_cmp0]; exact eq_false z
      have e120 := fc_120 (h := x) (Int32.toInt64 M) (f := t) (by omega)
      rw [fl_hb_i64 M (by omega), if_pos (show t < 32 by omega)] at e120
      cases c : fl_hi M t with
      | false =>
        rw [c, if_neg (by decide)] at e120
        have fin : fl_Rn fl_C 229 27 [some (.ref 0), some (.int M), some (.ref 28), some (.long (fl_mis g (fl_hi M) t)), none, some (.int (Int32.ofNat t))] [] x = fl_Rn fl_C 229 27 [some (.ref 0), some (.int M), some (.ref 28), some (.long (fl_mis g (fl_hi M) (t + 1))), none, some (.int (Int32.ofNat (t + 1)))] [] x := by
          rw [fl_mis_no c]
          clear w d ntx bn dx bn0 d0 N b183 R ok ok' hy nx z
          rw [fbC_229_27]
          simp (disch := omega) only [gx.1, gx.2, fl_KF, fl_RF, o27, fl_lit, fl_nadd, fl_nmul, fl_ndiv, fl_nsub, fl_msub, fl_nle, fl_nlt, fl_neq, fl_nclamp, fl_nin, fl_ltT, fl_ltF, fl_leT, fl_leF, fl_eqT, fl_eqF, decide_true, decide_false, Bool.true_and, Bool.and_true, Bool.false_and, Bool.and_false, if_true, if_false, Bool.false_eq_true, Option.isSome_some, Option.getD_some, not_true_eq_false, not_false_eq_true, Option.toList_some, Option.toList_none, List.cons_append, List.nil_append, i3, z', e120, fbP_229_52, fbC_229_94]
        rw [fin]
        exact hy x ⟨dx, by rw [fl_cnt, c]; exact bn⟩
      | true =>
        rw [c, if_pos rfl] at e120
        have at' := fl_kp_at (K := fl_hi M) (pt := fl_ps g) c ht
        have e110 : fl_cl fl_C 110 [.ref 28] x = some (some (some (.long (fl_B (fl_lvf g)))), x) := fc_110 gx N w nx
        have pv := d.2.2.2.1 t ht
        have e24 := fc_int R.2.2.2.1 gx (show t < 24 by omega)
        rw [(dx.2.2.2 (27 + 34) t (by omega)).2, pv, fl_o32, show g (78 + t) = fl_ps g t from rfl, ← at'.1] at e24
        obtain ⟨y, e116, dy, bny, bvy⟩ := fc_bt gx N b183 w nx (by omega) (fun i hi => ok' i (by omega)) bn
        have gy := fl_df_g gx dy
        have e119 := fc_bsh gy N b183 w (ntx (fl_df_tr dx dy)) (fun i hi => ok' i (by omega)) bvy
        have ms := fl_mis_st (g := g) c
        have fin : fl_Rn fl_C 229 27 [some (.ref 0), some (.int M), some (.ref 28), some (.long (fl_mis g (fl_hi M) t)), none, some (.int (Int32.ofNat t))] [] x = fl_Rn fl_C 229 27 [some (.ref 0), some (.int M), some (.ref 28), some (.long (fl_mis g (fl_hi M) (t + 1))), none, some (.int (Int32.ofNat (t + 1)))] [] y := by
          rw [← ms]
          clear w d ntx bn dx bn0 d0 N b183 R ok ok' hy nx z dy bny bvy at' ms
          rw [fbC_229_27]
          simp (disch := omega) only [gx.1, gx.2, fl_KF, fl_RF, o27, o28, o60, o183, fl_lit, fl_nadd, fl_nmul, fl_ndiv, fl_nsub, fl_msub, fl_nle, fl_nlt, fl_neq, fl_nclamp, fl_nin, fl_ltT, fl_ltF, fl_leT, fl_leF, fl_eqT, fl_eqF, decide_true, decide_false, Bool.true_and, Bool.and_true, Bool.false_and, Bool.and_false, if_true, if_false, Bool.false_eq_true, Option.isSome_some, Option.getD_some, not_true_eq_false, not_false_eq_true, Option.toList_some, Option.toList_none, List.cons_append, List.nil_append, i3, z', e120, fbP_229_52, e24, fbP_229_72, e110, fbP_229_76, e116, fbP_229_79, gy.1, gy.2, e119, fbP_229_88, fbC_229_94]
        rw [fin]
        exact hy y ⟨fl_df_tr dx dy, by rw [fl_cnt, c]; exact bny⟩
end
