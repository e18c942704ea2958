/-! blames: the class's side -/
/-- what was seen at an output is otherwise by a fault -/
def fl_blq (g tx : Nat → Nat) (f t j : Nat) : Bool := decide (fl_sval (tx (t * g 3 + j)) < 2) && (decide (fl_vl g f (fl_ps g) t (g (72 + j)) < 2) && decide (fl_sval (tx (t * g 3 + j)) ≠ fl_vl g f (fl_ps g) t (g (72 + j))))
def fl_bla (g tx : Nat → Nat) (f n : Nat) : Bool := fl_any (fun t => fl_any (fl_blq g tx f t) (g 3)) n
def fl_blA (g tx : Nat → Nat) (t j : Nat) : Int64 := fl_B (fun c => fl_lvf g c && !(fl_bla g tx (fl_fa (fl_lvf g) c) t || fl_any (fl_blq g tx (fl_fa (fl_lvf g) c) t) j))
def fl_blG (g tx : Nat → Nat) (t j : Nat) : Int64 := fl_B (fun _ => !(fl_bla g tx 64 t || fl_any (fl_blq g tx 64 t) j))
theorem fl_blx {s : Nat} {v : Nat → Nat} (hs : s ≤ 2) (hv : ∀ c, v c ≤ 2) : (if s = 0 then fl_B (fun c => decide (v c = 1)) else if s = 1 then fl_B (fun c => decide (v c = 0)) else 0) = fl_B (fun c => decide (s < 2) && (decide (v c < 2) && decide (s ≠ v c))) := by
  have k : ∀ x, x ≤ 2 → decide (x = 1) = (decide (0 < 2) && (decide (x < 2) && decide (0 ≠ x))) ∧ decide (x = 0) = (decide (1 < 2) && (decide (x < 2) && decide (1 ≠ x))) := fun x hx => by
    rcases (show x = 0 ∨ x = 1 ∨ x = 2 by omega) with e | e | e <;> subst e <;> exact ⟨rfl, rfl⟩
  rcases (show s = 0 ∨ s = 1 ∨ s = 2 by omega) with e | e | e <;> subst e
  · rw [if_pos rfl]; exact fl_B_congr fun c _ => (k _ (hv c)).1
  · rw [if_neg (by omega), if_pos rfl]; exact fl_B_congr fun c _ => (k _ (hv c)).2
  · rw [if_neg (by omega), if_neg (by omega), fl_B_0]; rfl
theorem fl_blA_s {g tx : Nat → Nat} {t j : Nat} : (fl_blA g tx t j &&& (fl_B (fun c => fl_blq g tx (fl_fa (fl_lvf g) c) t j) ^^^ (-1))) = fl_blA g tx t (j + 1) := by
  unfold fl_blA
  rw [fl_B_not, fl_B_and]
  refine fl_B_congr fun c _ => ?_
  show _ = (fl_lvf g c && !(fl_bla g tx (fl_fa (fl_lvf g) c) t || (fl_any (fl_blq g tx (fl_fa (fl_lvf g) c) t) j || fl_blq g tx (fl_fa (fl_lvf g) c) t j)))
  cases fl_lvf g c <;> cases fl_bla g tx (fl_fa (fl_lvf g) c) t <;> cases fl_any (fl_blq g tx (fl_fa (fl_lvf g) c) t) j <;> cases fl_blq g tx (fl_fa (fl_lvf g) c) t j <;> rfl
theorem fl_blG_s {g tx : Nat → Nat} {t j : Nat} : (fl_blG g tx t j &&& (fl_B (fun _ => fl_blq g tx 64 t j) ^^^ (-1))) = fl_blG g tx t (j + 1) := by
  unfold fl_blG
  rw [fl_B_not, fl_B_and]
  refine fl_B_congr fun c _ => ?_
  show _ = (!(fl_bla g tx 64 t || (fl_any (fl_blq g tx 64 t) j || fl_blq g tx 64 t j)))
  cases fl_bla g tx 64 t <;> cases fl_any (fl_blq g tx 64 t) j <;> cases fl_blq g tx 64 t j <;> rfl
theorem fl_blA_n {g tx : Nat → Nat} {t : Nat} : fl_blA g tx t (g 3) = fl_blA g tx (t + 1) 0 := by
  unfold fl_blA
  exact fl_B_congr fun c _ => by
    show _ = (fl_lvf g c && !(fl_bla g tx (fl_fa (fl_lvf g) c) (t + 1) || false))
    rw [Bool.or_false]; rfl
theorem fl_blG_n {g tx : Nat → Nat} {t : Nat} : fl_blG g tx t (g 3) = fl_blG g tx (t + 1) 0 := by
  unfold fl_blG
  exact fl_B_congr fun c _ => by
    show _ = !(fl_bla g tx 64 (t + 1) || false)
    rw [Bool.or_false]; rfl
theorem fl_blG_1 {g tx : Nat → Nat} {t : Nat} : (fl_blG g tx t 0 &&& 1) = if fl_bla g tx 64 t = true then 0 else 1 := by
  have e : fl_blG g tx t 0 = fl_B (fun _ => !fl_bla g tx 64 t) := by
    unfold fl_blG
    exact fl_B_congr fun c _ => by
      show (!(fl_bla g tx 64 t || false)) = _
      rw [Bool.or_false]
  rw [e]
  cases fl_bla g tx 64 t with
  | true => rw [if_pos rfl, show (fun _ : Nat => !true) = (fun _ => false) from rfl, ← fl_B_0]; rfl
  | false => rw [if_neg (by decide), show (fun _ : Nat => !false) = (fun _ => true) from rfl, ← fl_B_m1]; rfl
section
variable {k0 : Nat → Nat × Nat} {h : fl_H} {g tx : Nat → Nat} {c : Nat × Nat × Nat × Bool} {tn : Nat}
theorem fc_238 {o : Nat} (hg : fl_g k0 h) (ss : fl_isS k0 o) {k s : Nat} (hk : k < 12) (hs : s ≤ 2) : fl_cl fl_C 238 [.ref o, .int (Int32.ofNat k), .int (Int32.ofNat s)] h = some (some (some (.long (if s = 0 then fl_l h (o + 2) k else if s = 1 then fl_l h (o + 4) k else 0))), h) := by
  have a1 := fc_at ss.2.1 hg hk
  have a0 := fc_at ss.2.2.1 hg hk
  rw [fbE_238]
  rcases (show s = 0 ∨ s = 1 ∨ s = 2 by omega) with e | e | e <;> subst e
  · simp (disch := omega) only [hg.1, hg.2, ss.1, ss.2.1, ss.2.2.1, fl_lit, fl_nadd, fl_nmul, fl_ndiv, fl_nsub, fl_msub, fl_nle, fl_nlt, fl_neq, fl_nclamp, fl_nin, fl_ltT, fl_ltF, fl_leT, fl_leF, fl_eqT, fl_eqF, decide_true, decide_false, Bool.true_and, Bool.and_true, Bool.false_and, Bool.and_false, if_true, if_false, Bool.false_eq_true, Option.isSome_some, Option.getD_some, not_true_eq_false, not_false_eq_true, Option.toList_some, Option.toList_none, List.cons_append, List.nil_append, a1, fbP_238_12]
  · simp (disch := omega) only [hg.1, hg.2, ss.1, ss.2.1, ss.2.2.1, fl_lit, fl_nadd, fl_nmul, fl_ndiv, fl_nsub, fl_msub, fl_nle, fl_nlt, fl_neq, fl_nclamp, fl_nin, fl_ltT, fl_ltF, fl_leT, fl_leF, fl_eqT, fl_eqF, decide_true, decide_false, Bool.true_and, Bool.and_true, Bool.false_and, Bool.and_false, if_true, if_false, Bool.false_eq_true, Option.isSome_some, Option.getD_some, not_true_eq_false, not_false_eq_true, Option.toList_some, Option.toList_none, List.cons_append, List.nil_append, a0, fbP_238_28]
  · simp (disch := omega) only [hg.1, hg.2, ss.1, ss.2.1, ss.2.2.1, fl_lit, fl_nadd, fl_nmul, fl_ndiv, fl_nsub, fl_msub, fl_nle, fl_nlt, fl_neq, fl_nclamp, fl_nin, fl_ltT, fl_ltF, fl_leT, fl_leF, fl_eqT, fl_eqF, decide_true, decide_false, Bool.true_and, Bool.and_true, Bool.false_and, Bool.and_false, if_true, if_false, Bool.false_eq_true, Option.isSome_some, Option.getD_some, not_true_eq_false, not_false_eq_true, Option.toList_some, Option.toList_none, List.cons_append, List.nil_append]
/-- what was seen at one tick -/
theorem fc_239j (hg : fl_g k0 h) (w : fl_wf g) (nt : fl_net h 28 g) (iT : fl_iT h tn tx) (ok : ∀ p, p < tn → fl_sok (tx p) = true) {t : Nat} (ht : t < g 76) (htn : t * g 3 + g 3 ≤ tn) (V : fl_bv h 183 g t (fl_ps g)) : fl_Rn fl_C 239 85 [some (.ref 0), some (.ref 28), some (.long (fl_blA g tx t 0)), none, some (.long (fl_blG g tx t 0)), none, some (.int (Int32.ofNat t)), some (.int (Int32.ofNat 0))] [] h = fl_Rn fl_C 239 29 [some (.ref 0), some (.ref 28), some (.long (fl_blA g tx (t + 1) 0)), none, some (.long (fl_blG g tx (t + 1) 0)), none, some (.int (Int32.ofNat (t + 1)))] [] h := by
  have w3 : g 3 ≤ 4 := w.1.2.2.2.2.2.2.1
  have w0 : g 0 ≤ 12 := w.1.2.2.2.1
  have w7 : g 76 ≤ 24 := w.1.2.2.2.2.2.2.2.1
  have n80 := iT.1
  have N := fl_sk28 (k0 := k0)
  have b183 := fl_o183 (k0 := k0)
  have o28 := N.1.1
  have o28r : fl_RR 28 10 = some 39 := N.1.2.2.2.2.2.2
  have o39 := N.2.2.2.2.2.2.1
  have o1 := (fl_o1 (k0 := k0)).1.1
  have i4 : fl_i h 28 4 = Int32.ofNat (g 3) := nt.1.2.2.2.2
  have ob := b183.1
  have og := b183.2.1.1.1
  have obd := b183.2.2.1.1
  have lp := fl_iter (fun j => fl_Rn fl_C 239 85 [some (.ref 0), some (.ref 28), some (.long (fl_blA g tx t j)), none, some (.long (fl_blG g tx t j)), none, some (.int (Int32.ofNat t)), some (.int (Int32.ofNat j))] [] h) (g 3) (fun j hj => by
    have okp := fl_okp_g w
    have lk : g (72 + j) < g 0 := w.2.2.2.2.2.1 j hj
    have v := V (g (72 + j)) lk
    have e106 := fc_106 hg iT (p := t * g 3 + j) (by omega)
    have e107 := fc_107 (h := h) (iT.2.2.2.2 (t * g 3 + j) (by omega)).1
    rw [ok (t * g 3 + j) (by omega)] at e107
    have oi : fl_oi true (fl_sval (tx (t * g 3 + j))) = Int32.ofNat (fl_sval (tx (t * g 3 + j))) := rfl
    rw [oi] at e107
    have sv := fl_sval_le (tx (t * g 3 + j))
    have e24 := fc_int N.2.2.2.2.2.2 hg (show j < 4 by omega)
    rw [nt.2.2.2.2.2.2 j hj, fl_o32] at e24
    have eb := fc_238 hg b183.2.2 (k := g (72 + j)) (s := fl_sval (tx (t * g 3 + j))) (by omega) sv
    have eg := fc_238 hg b183.2.1 (k := g (72 + j)) (s := fl_sval (tx (t * g 3 + j))) (by omega) sv
    rw [show 183 + 10 = 193 from rfl] at eb
    rw [show 183 + 1 = 184 from rfl] at eg
    have vb : ∀ c, fl_vl g (fl_fa (fl_lvf g) c) (fl_ps g) t (g (72 + j)) ≤ 2 := fun c => fl_vl_le w okp ht _
    have vg : ∀ _ : Nat, fl_vl g 64 (fl_ps g) t (g (72 + j)) ≤ 2 := fun _ => fl_vl_le w okp ht _
    have v1 : fl_l h (193 + 2) (g (72 + j)) = _ := v.2.1
    have v2 : fl_l h (193 + 4) (g (72 + j)) = _ := v.2.2
    have v3 : fl_l h (184 + 2) (g (72 + j)) = _ := v.1.1
    have v4 : fl_l h (184 + 4) (g (72 + j)) = _ := v.1.2
    rw [v1, v2, fl_blx sv vb] at eb
    rw [v3, v4, fl_blx sv vg] at eg
    have qb : (fun c => decide (fl_sval (tx (t * g 3 + j)) < 2) && (decide (fl_vl g (fl_fa (fl_lvf g) c) (fl_ps g) t (g (72 + j)) < 2) && decide (fl_sval (tx (t * g 3 + j)) ≠ fl_vl g (fl_fa (fl_lvf g) c) (fl_ps g) t (g (72 + j))))) = (fun c => fl_blq g tx (fl_fa (fl_lvf g) c) t j) := rfl
    have qg : (fun _ : Nat => decide (fl_sval (tx (t * g 3 + j)) < 2) && (decide (fl_vl g 64 (fl_ps g) t (g (72 + j)) < 2) && decide (fl_sval (tx (t * g 3 + j)) ≠ fl_vl g 64 (fl_ps g) t (g (72 + j))))) = (fun _ => fl_blq g tx 64 t j) := rfl
    rw [qb] at eb
    rw [qg] at eg
    have sA := fl_blA_s (g := g) (tx := tx) (t := t) (j := j)
    have sG := fl_blG_s (g := g) (tx := tx) (t := t) (j := j)
    try dsimp only
    rw [← sA, ← sG]
    clear w nt iT ok V v v1 v2 v3 v4 vb vg qb qg okp sA sG N b183
    generalize (fl_B fun c => fl_blq g tx (fl_fa (fl_lvf g) c) t j) = X1 at *
    generalize (fl_B fun _ => fl_blq g tx 64 t j) = X2 at *
    generalize fl_sval (tx (t * g 3 + j)) = sx at *
    generalize fl_blA g tx t j = AA at *
    generalize fl_blG g tx t j = GG at *
    generalize tx (t * g 3 + j) = tv at *
    generalize g (72 + j) = ln at *
    rw [fbC_239_85]
    simp (disch := omega) only [hg.1, hg.2, fl_KF, fl_RF, o28, o28r, o39, o1, ob, og, obd, fl_lit, fl_nadd, fl_nmul, fl_ndiv, fl_nsub, fl_msub, fl_nle, fl_nlt, fl_neq, fl_nclamp, fl_nin, fl_ltT, fl_ltF, fl_leT, fl_leF, fl_eqT, fl_eqF, decide_true, decide_false, Bool.true_and, Bool.and_true, Bool.false_and, Bool.and_false, if_true, if_false, Bool.false_eq_true, Option.isSome_some, Option.getD_some, not_true_eq_false, not_false_eq_true, Option.toList_some, Option.toList_none, List.cons_append, List.nil_append, i4, e106, fbP_239_111, e107, fbP_239_114, e24, fbP_239_125, eb, fbP_239_142, eg, fbP_239_164])
  try dsimp only at lp
  rw [lp, fl_blA_n, fl_blG_n]
  clear lp w nt iT ok V N b183
  rw [fbC_239_85]
  simp (disch := omega) only [hg.1, o28, fl_lit, fl_nadd, fl_nmul, fl_ndiv, fl_nsub, fl_msub, fl_nle, fl_nlt, fl_neq, fl_nclamp, fl_nin, fl_ltT, fl_ltF, fl_leT, fl_leF, fl_eqT, fl_eqF, decide_true, decide_false, Bool.true_and, Bool.and_true, Bool.false_and, Bool.and_false, if_true, if_false, Bool.false_eq_true, Option.isSome_some, Option.getD_some, not_true_eq_false, not_false_eq_true, Option.toList_some, Option.toList_none, List.cons_append, List.nil_append, i4]
/-- what blames answers -/
def fl_bls (g tx : Nat → Nat) (n : Nat) : Int64 := fl_bs (fun f => !fl_bla g tx f n) (2 * (g 0 + g 2))
theorem fl_blA_F {n : Nat} (w : fl_wf g) : fl_blA g tx n 0 = fl_bls g tx n := by
  have w0 : g 0 ≤ 12 := w.1.2.2.2.1
  have w2 : g 2 ≤ 20 := w.1.2.2.2.2.1
  unfold fl_bls fl_blA
  rw [fl_bs_F (by omega)]
  refine fl_B_congr fun c _ => ?_
  show (fl_lvf g c && !(fl_bla g tx (fl_fa (fl_lvf g) c) n || false)) = (fl_lvf g c && _)
  rw [Bool.or_false]
  cases e : fl_lvf g c with
  | false => rfl
  | true => unfold fl_fa; rw [e, if_pos rfl]
theorem fc_239 {r : Int64} (hg : fl_g k0 h) (w : fl_wf g) (d : fl_rn h 27 g r) (e1 : fl_i h 4 1 = Int32.ofNat 6) (iT : fl_iT h tn tx) (ok : ∀ p, p < tn → fl_sok (tx p) = true) {n : Nat} (hn : n * g 3 = tn) (hn7 : n ≤ g 76) : ∃ y, fl_df (fl_SB 183) h y ∧ fl_cl fl_C 239 [.ref 0] h = some (some (some (.int (Int32.ofNat (fl_cnt (fl_hb (fl_bls g tx n)) 64)))), fl_ca2 (fl_wl y 27 (fl_up (fl_l y 27) 7 (fl_bls g tx n))) (fl_bls g tx n) (if fl_bla g tx 64 n = true then 0 else 1)) := by
  have N := fl_sk28 (k0 := k0)
  have b183 := fl_o183 (k0 := k0)
  have R := fl_o27 (k0 := k0)
  have w7 : g 76 ≤ 24 := w.1.2.2.2.2.2.2.2.1
  have w3 : g 3 ≤ 4 := w.1.2.2.2.2.2.2.1
  have n80 := iT.1
  have nt : fl_net h 28 g := d.1
  have ok' : fl_okp g (fl_ps g) (g 76) := fl_okp_g w
  obtain ⟨y0, e27, d0, bn0⟩ := fc_bs hg N b183 w nt (by omega)
  have ntx : ∀ {x : fl_H}, fl_df (fl_SB 183) h x → fl_net x 28 g := fun a => fl_net_fr nt (fl_df_i a (fun j => by omega)) (fun q z1 z2 => fl_df_l a (fun j => by omega))
  have itx : ∀ {x : fl_H}, fl_df (fl_SB 183) h x → fl_iT x tn tx := fun a => fl_iT_fr iT (a.2.2.2 259 4 (by omega)).1 (fl_df_i a (fun j => by omega)) (fl_df_i a (fun j => by omega)) (fl_df_l a (fun j => by omega))
  have o27 : fl_KK k0 27 = (1, 7) ∧ fl_RR 27 0 = some 28 ∧ fl_RR 27 2 = some 60 := ⟨R.1.1, R.1.2.1, R.1.2.2.2.1⟩
  have o60 : fl_KK k0 60 = (1, 1) := R.2.2.2.1.1
  have o183 := b183.1
  have o28 := N.1.1
  have o1 := (fl_o1 (k0 := k0)).1.1
  have o4 : fl_KK k0 4 = (1, 5) := fl_o4.1.1
  have e110 : fl_cl fl_C 110 [.ref 28] h = some (some (some (.long (fl_B (fl_lvf g)))), h) := fc_110 hg N w nt
  have zA : fl_blA g tx 0 0 = fl_B (fl_lvf g) := by
    unfold fl_blA
    exact fl_B_congr fun c _ => by
      show (fl_lvf g c && !(false || false)) = _
      rw [Bool.or_false, Bool.not_false, Bool.and_true]
  have zG : fl_blG g tx 0 0 = -1 := by
    unfold fl_blG
    rw [fl_B_m1]; rfl
  have st : fl_cl fl_C 239 [.ref 0] h = fl_Rn fl_C 239 29 [some (.ref 0), some (.ref 28), some (.long (fl_blA g tx 0 0)), none, some (.long (fl_blG g tx 0 0)), none, some (.int (Int32.ofNat 0))] [] y0 := by
    rw [zA, zG]
    clear w d ntx bn0 d0 N b183 R ok ok' iT itx zA zG
    rw [fbE_239]
    simp (disch := omega) only [hg.1, hg.2, fl_KF, fl_RF, o27, o28, o183, fl_lit, fl_nadd, fl_nmul, fl_ndiv, fl_nsub, fl_msub, fl_nle, fl_nlt, fl_neq, fl_nclamp, fl_nin, fl_ltT, fl_ltF, fl_leT, fl_leF, fl_eqT, fl_eqF, decide_true, decide_false, Bool.true_and, Bool.and_true, Bool.false_and, Bool.and_false, if_true, if_false, Bool.false_eq_true, Option.isSome_some, Option.getD_some, not_true_eq_false, not_false_eq_true, Option.toList_some, Option.toList_none, List.cons_append, List.nil_append, e110, fbP_239_12, e27, fbP_239_26]
  rw [st]
  clear st e27 e110 zA zG
  suffices fl_to (fl_Rn fl_C 239 29 [some (.ref 0), some (.ref 28), some (.long (fl_blA g tx 0 0)), none, some (.long (fl_blG g tx 0 0)), none, some (.int (Int32.ofNat 0))] [] y0) (fun v z => v = some (.int (Int32.ofNat (fl_cnt (fl_hb (fl_bls g tx n)) 64))) ∧ ∃ y, fl_df (fl_SB 183) h y ∧ z = fl_ca2 (fl_wl y 27 (fl_up (fl_l y 27) 7 (fl_bls g tx n))) (fl_bls g tx n) (if fl_bla g tx 64 n = true then 0 else 1)) by
    obtain ⟨v, z, e, rfl, y, dy, rfl⟩ := this
    exact ⟨y, dy, e⟩
  refine fl_loopT (F := fun t x => fl_Rn fl_C 239 29 [some (.ref 0), some (.ref 28), some (.long (fl_blA g tx t 0)), none, some (.long (fl_blG g tx t 0)), none, some (.int (Int32.ofNat t))] [] x) (fun t x => fl_df (fl_SB 183) h x ∧ fl_bn x 183 g t (fl_ps g)) n ?_ ?_ 0 y0 (Nat.zero_le _) ⟨d0, bn0 _⟩
  · rintro x ⟨dx, bn⟩
    have gx := fl_df_g hg dx
    have i3 : fl_i x 27 3 = Int32.ofNat (g 76) := by rw [(dx.2.2.2 27 3 (by omega)).1]; exact d.2.1.1
    have i4 : fl_i x 28 4 = Int32.ofNat (g 3) := (ntx dx).1.2.2.2.2
    have e31 := fc_31 gx (itx dx)
    have G1 : fl_g k0 (fl_wl x 27 (fl_up (fl_l x 27) 7 (fl_bls g tx n))) := ⟨by rw [fl_k_wl]; exact gx.1, by rw [fl_r_wl]; exact gx.2⟩
    have x1 : fl_i (fl_wl x 27 (fl_up (fl_l x 27) 7 (fl_bls g tx n))) 4 1 = Int32.ofNat 6 := by rw [fl_i_wl, (dx.2.2.2 4 1 (by omega)).1]; exact e1
    have t1 := fc_ca1 G1 x1 (fl_bls g tx n)
    have t2 := fc_ca2 G1 x1 (fl_bls g tx n) (if fl_bla g tx 64 n = true then 0 else 1)
    have g1 := fl_df_g G1 (fl_ca1_df (A := fl_bls g tx n))
    have b := fc_126 (h := fl_ca2 (fl_wl x 27 (fl_up (fl_l x 27) 7 (fl_bls g tx n))) (fl_bls g tx n) (if fl_bla g tx 64 n = true then 0 else 1)) (fl_bls g tx n)
    have g1' := fl_blG_1 (g := g) (tx := tx) (t := n)
    have fin : fl_Rn fl_C 239 29 [some (.ref 0), some (.ref 28), some (.long (fl_blA g tx n 0)), none, some (.long (fl_blG g tx n 0)), none, some (.int (Int32.ofNat n))] [] x = some (some (some (.int (Int32.ofNat (fl_cnt (fl_hb (fl_bls g tx n)) 64)))), fl_ca2 (fl_wl x 27 (fl_up (fl_l x 27) 7 (fl_bls g tx n))) (fl_bls g tx n) (if fl_bla g tx 64 n = true then 0 else 1)) := by
      rw [fl_blA_F w]
      have ex : fl_Rn fl_C 239 29 [some (.ref 0), some (.ref 28), some (.long (fl_bls g tx n)), none, some (.long (fl_blG g tx n 0)), none, some (.int (Int32.ofNat n))] [] x = fl_Rn fl_C 239 183 [some (.ref 0), none, some (.long (fl_bls g tx n)), none, some (.long (fl_blG g tx n 0))] [] x := by
        clear w d ntx bn dx bn0 d0 N b183 R ok ok' iT itx t1 t2 b g1 G1
        rw [fbC_239_29]
        by_cases z : g 76 ≤ n
        · simp (disch := omega) only [gx.1, gx.2, fl_KF, fl_RF, o27, fl_lit, fl_nadd, fl_nmul, fl_ndiv, fl_nsub, fl_msub, fl_nle, fl_nlt, fl_neq, fl_nclamp, fl_nin, fl_ltT, fl_ltF, fl_leT, fl_leF, fl_eqT, fl_eqF, decide_true, decide_false, Bool.true_and, Bool.and_true, Bool.false_and, Bool.and_false, if_true, if_false, Bool.false_eq_true, Option.isSome_some, Option.getD_some, not_true_eq_false, not_false_eq_true, Option.toList_some, Option.toList_none, List.cons_append, List.nil_append, i3]
        · simp (disch := omega) only [gx.1, gx.2, fl_KF, fl_RF, o27, o28, o1, fl_lit, fl_nadd, fl_nmul, fl_ndiv, fl_nsub, fl_msub, fl_nle, fl_nlt, fl_neq, fl_nclamp, fl_nin, fl_ltT, fl_ltF, fl_leT, fl_leF, fl_eqT, fl_eqF, decide_true, decide_false, Bool.true_and, Bool.and_true, Bool.false_and, Bool.and_false, if_true, if_false, Bool.false_eq_true, Option.isSome_some, Option.getD_some, not_true_eq_false, not_false_eq_true, Option.toList_some, Option.toList_none, List.cons_append, List.nil_append, i3, i4, e31, fbP_239_55, hn]
      rw [ex]
      clear w d ntx bn dx bn0 d0 N b183 R ok ok' iT itx ex
      generalize (if fl_bla g tx 64 n = true then (0 : Int64) else 1) = G0 at *
      generalize fl_bls g tx n = LS at *
      generalize fl_ca2 (fl_wl x 27 (fl_up (fl_l x 27) 7 LS)) LS G0 = H2 at *
      generalize fl_ca1 (fl_wl x 27 (fl_up (fl_l x 27) 7 LS)) LS = H1 at *
      rw [fbC_239_183]
      simp (disch := omega) only [fl_sl_wl, gx.1, gx.2, G1.1, G1.2, fl_KF, fl_RF, o27, o4, fl_lit, fl_nadd, fl_nmul, fl_ndiv, fl_nsub, fl_msub, fl_nle, fl_nlt, fl_neq, fl_nclamp, fl_nin, fl_ltT, fl_ltF, fl_leT, fl_leF, fl_eqT, fl_eqF, decide_true, decide_false, Bool.true_and, Bool.and_true, Bool.false_and, Bool.and_false, if_true, if_false, Bool.false_eq_true, Option.isSome_some, Option.getD_some, not_true_eq_false, not_false_eq_true, Option.toList_some, Option.toList_none, List.cons_append, List.nil_append, fbC_239_191, t1, fbP_239_196, g1.1, g1.2, g1', t2, fbP_239_207, b, fbP_239_211]
    exact ⟨_, _, fin, rfl, x, dx, rfl⟩
  · rintro t x ht ⟨dx, bn⟩ hy
    have gx := fl_df_g hg dx
    have nx := ntx dx
    have tx' := itx dx
    have i3 : fl_i x 27 3 = Int32.ofNat (g 76) := by rw [(dx.2.2.2 27 3 (by omega)).1]; exact d.2.1.1
    have i4 : fl_i x 28 4 = Int32.ofNat (g 3) := nx.1.2.2.2.2
    have e31 := fc_31 gx tx'
    have e110 : fl_cl fl_C 110 [.ref 28] x = some (some (some (.long (fl_B (fl_lvf g)))), x) := fc_110 gx N w nx
    have pv := d.2.2.2.1 t (by omega)
    have e24 := fc_int R.2.2.2.1 gx (show t < 24 by omega)
    rw [(dx.2.2.2 (27 + 34) t (by omega)).2, pv, fl_o32, show g (78 + t) = fl_ps g t from rfl] at e24
    obtain ⟨y, e116, dy, bny, bvy⟩ := fc_bt gx N b183 w nx (by omega) (fun i hi => ok' i (by omega)) bn
    have gy := fl_df_g gx dy
    have htn : t * g 3 + g 3 ≤ tn := by
      have := Nat.mul_le_mul_right (g 3) (show t + 1 ≤ n from ht)
      rw [Nat.add_mul, Nat.one_mul] at this
      omega
    have lj := fc_239j gy w (ntx (fl_df_tr dx dy)) (itx (fl_df_tr dx dy)) ok (t := t) (by omega) htn bvy
    have w31 : 1 ≤ g 3 := w.1.2.2.2.2.2.1
    have fin : fl_Rn fl_C 239 29 [some (.ref 0), some (.ref 28), some (.long (fl_blA g tx t 0)), none, some (.long (fl_blG g tx t 0)), none, some (.int (Int32.ofNat t))] [] x = fl_Rn fl_C 239 29 [some (.ref 0), some (.ref 28), some (.long (fl_blA g tx (t + 1) 0)), none, some (.long (fl_blG g tx (t + 1) 0)), none, some (.int (Int32.ofNat (t + 1)))] [] y := by
      rw [← lj]
      clear w d ntx bn dx bn0 d0 N b183 R ok ok' iT itx hy nx tx' dy bny bvy lj
      generalize fl_blA g tx t 0 = AA at *
      generalize fl_blG g tx t 0 = GG at *
      rw [fbC_239_29]
      simp (disch := omega) only [gx.1, gx.2, fl_KF, fl_RF, o27, o28, o60, o183, o1, fl_lit, fl_nadd, fl_nmul, fl_ndiv, fl_nsub, fl_msub, fl_nle, fl_nlt, fl_neq, fl_nclamp, fl_nin, fl_ltT, fl_ltF, fl_leT, fl_leF, fl_eqT, fl_eqF, decide_true, decide_false, Bool.true_and, Bool.and_true, Bool.false_and, Bool.and_false, if_true, if_false, Bool.false_eq_true, Option.isSome_some, Option.getD_some, not_true_eq_false, not_false_eq_true, Option.toList_some, Option.toList_none, List.cons_append, List.nil_append, i3, i4, e31, fbP_239_55, e24, fbP_239_75, e110, fbP_239_79, e116, fbP_239_82]
    rw [fin]
    exact hy y ⟨fl_df_tr dx dy, bny⟩
end
