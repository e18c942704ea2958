/-! THE REFERENCE: the first tick at which a fault shows; sets -/
theorem fl_up_up {α : Type} {o : Nat → α} {f : Nat} {a b : α} : fl_up (fl_up o f a) f b = fl_up o f b := by
  funext j
  unfold fl_up
  by_cases e : j = f
  · rw [if_pos e, if_pos e]
  · rw [if_neg e, if_neg e, if_neg e]
/-- a number, or none -/
def fl_oi (b : Bool) (t : Nat) : Int32 := if b = true then Int32.ofNat t else -Int32.ofNat 1
theorem fl_oi_lt {b : Bool} {t : Nat} (ht : t < 2147483648) : (fl_oi b t < Int32.ofNat 0) = (b = false) := by
  unfold fl_oi
  cases b with
  | true =>
    rw [if_pos rfl, fl_nlt ht (by omega)]
    exact propext ⟨fun z => by omega, fun z => by cases z⟩
  | false => rw [if_neg (by decide)]; exact propext ⟨fun _ => rfl, fun _ => by decide⟩
theorem fl_oi_le {b : Bool} {t : Nat} (ht : t < 2147483648) : (Int32.ofNat 0 ≤ fl_oi b t) = (b = true) := by
  unfold fl_oi
  cases b with
  | true =>
    rw [if_pos rfl, fl_nle (by omega) ht]
    exact propext ⟨fun _ => rfl, fun _ => by omega⟩
  | false => rw [if_neg (by decide)]; exact propext ⟨fun z => absurd z (by decide), fun z => by cases z⟩
theorem fl_frst_le {q : Nat → Bool} : ∀ n, fl_frst q n ≤ n
  | 0 => Nat.le_refl 0
  | n + 1 => by
    have := fl_frst_le (q := q) n
    rw [fl_frst]
    repeat' split
    all_goals omega
theorem fr_232 {k0 : Nat → Nat × Nat} {h : fl_H} {g : Nat → Nat} (hg : fl_g k0 h) (m : fl_mm h g) (w : fl_wf g) {n : Nat} {ps : Nat → Nat} (l : fl_ls h n ps) (hp : fl_okp g ps n) (hgd : fl_gd h g n ps) {f : Nat} (hf : f < 64) : fl_to (fl_cl fl_C 232 [.ref 259, .int (Int32.ofNat f)] h) (fun r h' => r = some (.int (fl_oi (fl_any (fl_shn g f ps) n) (fl_frst (fl_shn g f ps) n))) ∧ fl_fx (fun b => b = 266 ∨ b = 267) h h') := by
  have w1 : g 0 ≤ 12 := w.1.2.2.2.1
  have e1 : fl_cl fl_C 232 [.ref 259, .int (Int32.ofNat f)] h = fl_Rn fl_C 232 6 [some (.ref 259), some (.int (Int32.ofNat f)), some (.int (Int32.ofNat 0))] [] (fl_wi h 267 (fl_ar (g 0) (fun k => g (40 + k)) (fl_i h 267))) := by
    rw [fbE_232, fr_132 hg m w, fbP_232_4]
    simp (disch := omega) only [hg.1, fl_KM, fl_RM, fl_lit, fl_nadd, fl_nmul, fl_ndiv, fl_nsub, fl_msub, fl_nle, fl_nlt, fl_neq, fl_nclamp, fl_nin, fl_ltT, fl_ltF, fl_leT, fl_leF, fl_eqT, fl_eqF, decide_true, decide_false, Bool.true_and, Bool.and_true, Bool.false_and, Bool.and_false, if_true, if_false, Bool.false_eq_true, Option.isSome_some, Option.getD_some, not_true_eq_false, not_false_eq_true, Option.toList_some, Option.toList_none, List.cons_append, List.nil_append]
  rw [e1]
  refine fl_loopT (F := fun t x => fl_Rn fl_C 232 6 [some (.ref 259), some (.int (Int32.ofNat f)), some (.int (Int32.ofNat t))] [] x) (fun t x => fl_fx (fun b => b = 266 ∨ b = 267) h x ∧ (∀ k, k < g 0 → fl_i x 267 k = Int32.ofNat (fl_hd g f ps t k)) ∧ fl_any (fl_shn g f ps) t = false) n ?_ ?_ 0 (fl_wi h 267 (fl_ar (g 0) (fun k => g (40 + k)) (fl_i h 267))) (Nat.zero_le n) ⟨fl_fx_wi fl_fx_rfl (Or.inr rfl), fun k hk => by rw [fl_i_wi, if_pos rfl, fl_ar_lt hk]; rfl, rfl⟩
  · rintro x ⟨fx, hd, hn⟩
    have hgx := fl_g_fx hg fx
    have lx := fl_ls_fx l fx (by omega) (by omega)
    have l1 := lx.1
    have l2 := lx.2.1
    have fin : fl_Rn fl_C 232 6 [some (.ref 259), some (.int (Int32.ofNat f)), some (.int (Int32.ofNat n))] [] x = some (some (some (.int (-Int32.ofNat 1))), x) := by
      clear w m hd hp l lx hgd
      rw [fbC_232_6]
      simp (disch := omega) only [hgx.1, hgx.2, fl_KM, fl_RM, fl_lit, fl_nadd, fl_nmul, fl_ndiv, fl_nsub, fl_msub, fl_nle, fl_nlt, fl_neq, fl_nclamp, fl_nin, fl_ltT, fl_ltF, fl_leT, fl_leF, fl_eqT, fl_eqF, decide_true, decide_false, Bool.true_and, Bool.and_true, Bool.false_and, Bool.and_false, if_true, if_false, Bool.false_eq_true, Option.isSome_some, Option.getD_some, not_true_eq_false, not_false_eq_true, Option.toList_some, Option.toList_none, List.cons_append, List.nil_append, l2]
    rw [fin]
    refine fl_to_mk ⟨?_, fx⟩
    rw [hn]
    rfl
  · rintro t x ht ⟨fx, hd, hn⟩ hy
    have hgx := fl_g_fx hg fx
    have mx := fl_mm_fx m fx (by omega)
    have lx := fl_ls_fx l fx (by omega) (by omega)
    have l1 := lx.1
    have l2 := lx.2.1
    have l3 := lx.2.2 t ht
    have e137 := fr_137 hgx mx w (hp t ht).1 (hp t ht).2 f (fl_hd_le (f := f) w hp t (by omega)) (fun k hk _ => hd k hk)
    rw [fl_fi_lt hf] at e137
    have fx2 : fl_fx (fun b => b = 266 ∨ b = 267) h (fl_tk x g f (ps t) (fl_hd g f ps t)) := fl_fx_tr fx fl_tk_fx
    have e139 := fr_139 (fl_g_fx hg fx2) (fl_mm_fx m fx2 (by omega)) w (show t < 25 by omega) (a := fl_vl g 64 ps t) (b := fl_vl g f ps t) (fun k => fl_vl_le w hp ht k) (fun k => fl_vl_le w hp ht k) (fun k hk => by rw [fx2.2.2.2.2 269 (by omega)]; exact hgd.1 t ht k hk) (fun k hk => fl_tk_val hk)
    have z := fl_bi_0 (q := fl_sq g (fl_vl g 64 ps t) (fl_vl g f ps t)) (ln := fun o => g (72 + o)) (n := g 3) (fun i hi => by
      have := w.2.2.2.2.2.1 i hi
      omega)
    have fin : fl_Rn fl_C 232 6 [some (.ref 259), some (.int (Int32.ofNat f)), some (.int (Int32.ofNat t))] [] x = if fl_shn g f ps t = false then fl_Rn fl_C 232 6 [some (.ref 259), some (.int (Int32.ofNat f)), some (.int (Int32.ofNat (t + 1)))] [] (fl_tk x g f (ps t) (fl_hd g f ps t)) else some (some (some (.int (Int32.ofNat t))), fl_tk x g f (ps t) (fl_hd g f ps t)) := by
      have hk2 : fl_k (fl_tk x g f (ps t) (fl_hd g f ps t)) = fl_k x := rfl
      clear w m mx hd hp l lx hy hgd
      rw [fbC_232_6]
      simp (disch := omega) only [hgx.1, hgx.2, fl_KM, fl_RM, fl_lit, fl_nadd, fl_nmul, fl_ndiv, fl_nsub, fl_msub, fl_nle, fl_nlt, fl_neq, fl_nclamp, fl_nin, fl_ltT, fl_ltF, fl_leT, fl_leF, fl_eqT, fl_eqF, decide_true, decide_false, Bool.true_and, Bool.and_true, Bool.false_and, Bool.and_false, if_true, if_false, Bool.false_eq_true, Option.isSome_some, Option.getD_some, not_true_eq_false, not_false_eq_true, Option.toList_some, Option.toList_none, List.cons_append, List.nil_append, l2, l3, e137, hk2, e139, z, fbC_232_21, fbP_232_4, fbP_232_25, fbP_232_30]
      unfold fl_shn
      by_cases c : fl_any (fl_sq g (fl_vl g 64 ps t) (fl_vl g f ps t)) (g 3) = false
      · rw [if_pos c, if_pos (decide_eq_true c)]
      · rw [if_neg c, if_neg (fun z => c (of_decide_eq_true z))]
    rw [fin]
    by_cases c : fl_shn g f ps t = false
    · rw [if_pos c]
      refine hy _ ⟨fx2, fun k hk => ?_, ?_⟩
      · rw [fl_tk_hold hk]; rfl
      · rw [fl_any, hn, c]; rfl
    · rw [if_neg c]
      have c' : fl_shn g f ps t = true := by
        cases e : fl_shn g f ps t with
        | true => rfl
        | false => exact absurd e c
      have := fl_frst_at hn c' ht
      refine fl_to_mk ⟨?_, fx2⟩
      rw [this.1, this.2]
      rfl
theorem fr_233 {k0 : Nat → Nat × Nat} {h : fl_H} {g : Nat → Nat} (hg : fl_g k0 h) (m : fl_mm h g) (w : fl_wf g) {n : Nat} {ps : Nat → Nat} (l : fl_ls h n ps) (hp : fl_okp g ps n) : fl_to (fl_cl fl_C 233 [.ref 259] h) (fun r h' => r = some (.long (fl_bs (fun f => fl_any (fl_shn g f ps) n) (2 * (g 0 + g 2)))) ∧ fl_fx (fun b => b = 266 ∨ b = 267 ∨ b = 269 ∨ b = 270) h h') := by
  have w1 : g 0 ≤ 12 := w.1.2.2.2.1
  have w2 : g 2 ≤ 20 := w.1.2.2.2.2.1
  obtain ⟨r, h1, e138, rfl, fx1, gd1⟩ := fr_138 hg m w l hp
  have e1 : fl_cl fl_C 233 [.ref 259] h = fl_Rn fl_C 233 8 [some (.ref 259), some (.long 0), none, some (.int (Int32.ofNat 0))] [] h1 := by
    rw [fbE_233, e138, fbP_233_4]
    simp (disch := omega) only [hg.1, fl_KM, fl_RM, fl_lit, fl_nadd, fl_nmul, fl_ndiv, fl_nsub, fl_msub, fl_nle, fl_nlt, fl_neq, fl_nclamp, fl_nin, fl_ltT, fl_ltF, fl_leT, fl_leF, fl_eqT, fl_eqF, decide_true, decide_false, Bool.true_and, Bool.and_true, Bool.false_and, Bool.and_false, if_true, if_false, Bool.false_eq_true, Option.isSome_some, Option.getD_some, not_true_eq_false, not_false_eq_true, Option.toList_some, Option.toList_none, List.cons_append, List.nil_append]
  rw [e1]
  refine fl_loopT (F := fun f x => fl_Rn fl_C 233 8 [some (.ref 259), some (.long (fl_bs (fun f => fl_any (fl_shn g f ps) n) f)), none, some (.int (Int32.ofNat f))] [] x) (fun f x => fl_fx (fun b => b = 266 ∨ b = 267 ∨ b = 269 ∨ b = 270) h x ∧ fl_gd x g n ps) (2 * (g 0 + g 2)) ?_ ?_ 0 h1 (Nat.zero_le _) ⟨fx1, gd1⟩
  · rintro x ⟨fx, gdx⟩
    have hgx := fl_g_fx hg fx
    have e88 := fr_88 hgx (fl_mm_fx m fx (by omega))
    have fin : fl_Rn fl_C 233 8 [some (.ref 259), some (.long (fl_bs (fun f => fl_any (fl_shn g f ps) n) (2 * (g 0 + g 2)))), none, some (.int (Int32.ofNat (2 * (g 0 + g 2))))] [] x = some (some (some (.long (fl_bs (fun f => fl_any (fl_shn g f ps) n) (2 * (g 0 + g 2))))), x) := by
      clear w m hp l
      rw [fbC_233_8, e88, fbP_233_13]
      simp (disch := omega) only [hgx.1, hgx.2, fl_KM, fl_RM, fl_lit, fl_nadd, fl_nmul, fl_ndiv, fl_nsub, fl_msub, fl_nle, fl_nlt, fl_neq, fl_nclamp, fl_nin, fl_ltT, fl_ltF, fl_leT, fl_leF, fl_eqT, fl_eqF, decide_true, decide_false, Bool.true_and, Bool.and_true, Bool.false_and, Bool.and_false, if_true, if_false, Bool.false_eq_true, Option.isSome_some, Option.getD_some, not_true_eq_false, not_false_eq_true, Option.toList_some, Option.toList_none, List.cons_append, List.nil_append]
    rw [fin]
    exact fl_to_mk ⟨rfl, fx⟩
  · rintro f x hf ⟨fx, gdx⟩ hy
    have hgx := fl_g_fx hg fx
    have mx := fl_mm_fx m fx (by omega)
    have lx := fl_ls_fx l fx (by omega) (by omega)
    have e88 := fr_88 hgx mx
    obtain ⟨r, y, e232, rfl, fy⟩ := fr_232 hgx mx w lx hp gdx (show f < 64 by omega)
    have fr := fl_frst_le (q := fl_shn g f ps) n
    have l1 := l.1
    have fin : fl_Rn fl_C 233 8 [some (.ref 259), some (.long (fl_bs (fun f => fl_any (fl_shn g f ps) n) f)), none, some (.int (Int32.ofNat f))] [] x = fl_Rn fl_C 233 8 [some (.ref 259), some (.long (fl_bs (fun f => fl_any (fl_shn g f ps) n) (f + 1))), none, some (.int (Int32.ofNat (f + 1)))] [] y := by
      have hz := fl_oi_lt (b := fl_any (fl_shn g f ps) n) (t := fl_frst (fl_shn g f ps) n) (by omega)
      clear w m mx hp l lx hy
      rw [fbC_233_8, e88, fbP_233_13]
      simp (disch := omega) only [hgx.1, hgx.2, fl_KM, fl_RM, fl_lit, fl_nadd, fl_nmul, fl_ndiv, fl_nsub, fl_msub, fl_nle, fl_nlt, fl_neq, fl_nclamp, fl_nin, fl_ltT, fl_ltF, fl_leT, fl_leF, fl_eqT, fl_eqF, decide_true, decide_false, Bool.true_and, Bool.and_true, Bool.false_and, Bool.and_false, if_true, if_false, Bool.false_eq_true, Option.isSome_some, Option.getD_some, not_true_eq_false, not_false_eq_true, Option.toList_some, Option.toList_none, List.cons_append, List.nil_append, e232, fbP_233_4, fbP_233_13, fbP_233_22, hz, fl_bs]
      rcases Bool.eq_false_or_eq_true (fl_any (fl_shn g f ps) n) with e | e <;> simp only [e, if_true, if_false, decide_true, decide_false, Bool.true_eq_false, Bool.false_eq_true, reduceCtorEq, not_true_eq_false, not_false_eq_true]
    rw [fin]
    exact hy _ ⟨fl_fx_tr fx (fl_fx_mo fy (by omega)), fl_gd_fx gdx fy (by omega) (by omega)⟩
