/-! sign -/
theorem fl_amt32 : ∀ s, s < 32 → (Int32.toUInt32 (Int32.ofNat s) &&& Int32.toUInt32 (Int32.ofNat 31)).toBitVec % 32 = BitVec.ofNat 32 s := by decide +kernel
theorem fl_amt32s : ∀ s, s < 32 → (Int32.ofNat s &&& Int32.ofNat 31).toBitVec.smod 32 = BitVec.ofNat 32 s := by decide +kernel
theorem fl_hi255 : ∀ c, c < 32 → fl_hi (Int32.ofNat 255) c = decide (c < 8) := by decide +kernel
theorem fl_toN32 {f : Nat} (hf : f < 32) : (BitVec.ofNat 32 f).toNat = f := by
  rw [BitVec.toNat_ofNat]; omega
/-- a byte of an int -/
def fl_sby (v : Int32) (s : Nat) : Nat := ((Int32.toUInt32 v >>> (Int32.toUInt32 (Int32.ofNat s) &&& Int32.toUInt32 (Int32.ofNat 31))).toInt32).toBitVec.toNat % 256
theorem fl_sby_lt {v : Int32} {s : Nat} : fl_sby v s < 256 := Nat.mod_lt _ (by omega)
theorem fl_and255 (y : Int32) : y &&& Int32.ofNat 255 = Int32.ofNat (y.toBitVec.toNat % 256) := by
  apply Int32.toBitVec_inj.mp
  apply BitVec.eq_of_toNat_eq
  rw [Int32.toBitVec_and, BitVec.toNat_and, show (Int32.ofNat 255).toBitVec.toNat = 2 ^ 8 - 1 from rfl, Nat.and_two_pow_sub_one_eq_mod, Int32.toBitVec_ofNat', BitVec.toNat_ofNat]
  omega
theorem fl_sby_u {v : Int32} {s : Nat} : ((Int32.toUInt32 v >>> (Int32.toUInt32 (Int32.ofNat s) &&& Int32.toUInt32 (Int32.ofNat 31))).toInt32) &&& Int32.ofNat 255 = Int32.ofNat (fl_sby v s) := fl_and255 _
theorem fl_sby_s {v : Int32} {s : Nat} (hs : s ≤ 24) : (v >>> (Int32.ofNat s &&& Int32.ofNat 31)) &&& Int32.ofNat 255 = Int32.ofNat (fl_sby v s) := by
  rw [← fl_sby_u]
  apply fl_hi_ext
  intro c hc
  rw [fl_hi_and, fl_hi_and, fl_hi255 c hc]
  by_cases l : c < 8
  · rw [decide_eq_true l, Bool.and_true, Bool.and_true]
    unfold fl_hi
    rw [Int32.toBitVec_shiftRight, fl_amt32s s (by omega), UInt32.toBitVec_toInt32, UInt32.toBitVec_shiftRight, fl_amt32 s (by omega), BitVec.ushiftRight_eq', fl_toN32 (by omega), BitVec.getLsbD_ushiftRight]
    show (v.toBitVec.sshiftRight (BitVec.ofNat 32 s).toNat).getLsbD c = _
    rw [fl_toN32 (by omega), BitVec.getLsbD_sshiftRight, if_pos (by omega), decide_eq_false (by omega)]
    rfl
  · rw [decide_eq_false l, Bool.and_false, Bool.and_false]
section
variable {k0 : Nat → Nat × Nat} {h : fl_H} {c : Nat × Nat × Nat × Bool}
def fl_sA (h : fl_H) (n : Nat) (v : Int32) (i : Nat) : fl_H := fl_wi (fl_wl h 3 (fl_seg n i (fun j => Int64.ofNat (fl_sby v (24 - 8 * j))) (fl_l h 3))) 1 (fl_up (fl_i h 1) 2 (Int32.ofNat (n + i)))
def fl_sS (i : Nat) : Int32 := if i < 4 then Int32.ofNat (24 - 8 * i) else -Int32.ofNat 8
theorem fl_sA_g {n i : Nat} {v : Int32} (hg : fl_g k0 h) : fl_g k0 (fl_sA h n v i) := by
  unfold fl_sA
  exact ⟨by rw [fl_k_wi, fl_k_wl]; exact hg.1, by rw [fl_r_wi, fl_r_wl]; exact hg.2⟩
theorem fo_sign_s {n : Nat} (hg : fl_g k0 h) (hn : n + 4 ≤ 80) (e1 : fl_i h 1 1 = Int32.ofNat 80) (v : Int32) {i : Nat} (hi : i < 4) : fl_Rn fl_C 33 19 [some (.ref 0), some (.int v), some (.int (fl_sS i))] [] (fl_sA h n v i) = fl_Rn fl_C 33 19 [some (.ref 0), some (.int v), some (.int (fl_sS (i + 1)))] [] (fl_sA h n v (i + 1)) := by
  have hgA := fl_sA_g (n := n) (i := i) (v := v) hg
  have o := fl_o1 (k0 := k0)
  have pt := fc_put o.2 hgA (i := n + i) (by omega) (Int64.ofNat (fl_sby v (24 - 8 * i)))
  have l3 : fl_l (fl_sA h n v i) 3 = fl_seg n i (fun j => Int64.ofNat (fl_sby v (24 - 8 * j))) (fl_l h 3) := by
    unfold fl_sA; rw [fl_l_wi, fl_l_wl, if_pos rfl]
  have i1 : fl_i (fl_sA h n v i) 1 = fl_up (fl_i h 1) 2 (Int32.ofNat (n + i)) := by
    unfold fl_sA; rw [fl_i_wi, if_pos rfl]
  have sg := fl_seg_succ (a := n) (k := i) (f := fun j => Int64.ofNat (fl_sby v (24 - 8 * j))) (old := fl_l h 3) rfl
  have fin : fl_wi (fl_wl (fl_sA h n v i) 3 (fl_up (fl_l (fl_sA h n v i) 3) (n + i) (Int64.ofNat (fl_sby v (24 - 8 * i))))) 1 (fl_up (fl_i (fl_sA h n v i) 1) 2 (Int32.ofNat (n + i + 1))) = fl_sA h n v (i + 1) := by
    rw [l3, i1, sg, fl_up_up]
    unfold fl_sA
    refine fl_H_ext rfl rfl rfl ?_ ?_
    · funext b
      rw [fl_i_wi, fl_i_wi, fl_i_wl, fl_i_wl, fl_i_wi]
      by_cases z : b = 1
      · rw [if_pos z, if_pos z]; rfl
      · rw [if_neg z, if_neg z, if_neg z, fl_i_wl]
    · funext b
      rw [fl_l_wi, fl_l_wi, fl_l_wl, fl_l_wl, fl_l_wi, fl_l_wl]
      by_cases z : b = 3
      · rw [if_pos z, if_pos z]
      · rw [if_neg z, if_neg z, if_neg z]
  have x1 : fl_i (fl_sA h n v i) 1 1 = Int32.ofNat 80 := by rw [i1, fl_up_ne (by omega)]; exact e1
  have x2 : fl_i (fl_sA h n v i) 1 2 = Int32.ofNat (n + i) := by rw [i1, fl_up_self]
  have sS : fl_sS i = Int32.ofNat (24 - 8 * i) := if_pos hi
  have s1 : Int32.ofNat (24 - 8 * i) + -Int32.ofNat 8 = fl_sS (i + 1) := by
    rcases (show i = 0 ∨ i = 1 ∨ i = 2 ∨ i = 3 by omega) with e | e | e | e <;> subst e <;> decide
  have x64 := fl_i64 (show fl_sby v (24 - 8 * i) < 2147483648 by have := fl_sby_lt (v := v) (s := 24 - 8 * i); omega)
  have o1 := o.1
  have o2 := o.2.1
  generalize fl_sA h n v i = A at hgA pt x1 x2 fin ⊢
  generalize fl_sA h n v (i + 1) = B at fin ⊢
  clear l3 i1 sg
  rw [sS, fbC_33_19]
  simp (disch := omega) only [fl_k_wl, fl_r_wl, fl_i_wl, fl_l_wl, fl_1_wl, fl_k_wi, fl_r_wi, fl_l_wi, fl_1_wi, fl_i_wi, fl_k_si, fl_r_si, fl_l_si, fl_k_sl, fl_r_sl, fl_i_sl, fl_up_self, fl_up_ne, fl_si_wi, fl_sl_wl, fl_wi_wi, fl_wl_wl, hgA.1, hgA.2, fl_KF, fl_RF, o1, o2, fl_lit, fl_nadd, fl_nmul, fl_ndiv, fl_nsub, fl_msub, fl_nle, fl_nlt, fl_neq, fl_nclamp, fl_nin, fl_ltT, fl_ltF, fl_leT, fl_leF, fl_eqT, fl_eqF, decide_true, decide_false, Bool.true_and, Bool.and_true, Bool.false_and, Bool.and_false, if_true, if_false, Bool.false_eq_true, Option.isSome_some, Option.getD_some, not_true_eq_false, not_false_eq_true, Option.toList_some, Option.toList_none, List.cons_append, List.nil_append, fl_sby_u, x64, fbE_32, x1, x2, pt, fbP_32_23, fbC_32_33, fin, fbP_33_38, s1]
theorem fo_sign_a {n : Nat} (hg : fl_g k0 h) (hn : n ≤ 80) (e1 : fl_i h 1 1 = Int32.ofNat 80) (e2 : fl_i h 1 2 = Int32.ofNat n) (v : Int32) : fl_cl fl_C 33 [.ref 0, .int v] h = if n + 4 ≤ 80 then some (some (some (.int (Int32.ofNat (n + 4)))), fl_sA h n v 4) else some (some (some (.int (-Int32.ofNat 1))), h) := by
  have o1 := (fl_o1 (k0 := k0)).1
  by_cases l : n + 4 ≤ 80
  · rw [if_pos l]
    have lp := fl_iter (fun i => fl_Rn fl_C 33 19 [some (.ref 0), some (.int v), some (.int (fl_sS i))] [] (fl_sA h n v i)) 4 (fun i hi => fo_sign_s hg l e1 v hi)
    have e0 : fl_sA h n v 0 = h := by
      unfold fl_sA
      rw [fl_seg_0, fl_wl_self rfl]
      refine fl_wi_self ?_
      funext j
      unfold fl_up
      by_cases z : j = 2
      · rw [if_pos z, z]; exact e2.symm
      · rw [if_neg z]
    try dsimp only at lp
    rw [e0] at lp
    have s0 : fl_sS 0 = Int32.ofNat 24 := rfl
    have s4 : fl_sS 4 = -Int32.ofNat 8 := rfl
    rw [s0, s4] at lp
    have hgA := fl_sA_g (n := n) (i := 4) (v := v) hg
    have x2 : fl_i (fl_sA h n v 4) 1 2 = Int32.ofNat (n + 4) := by unfold fl_sA; rw [fl_i_wi, if_pos rfl, fl_up_self]
    generalize fl_sA h n v 4 = A at lp hgA x2 ⊢
    have fin : fl_Rn fl_C 33 19 [some (.ref 0), some (.int v), some (.int (-Int32.ofNat 8))] [] A = some (some (some (.int (Int32.ofNat (n + 4)))), A) := by
      have ng : (-Int32.ofNat 8 < Int32.ofNat 0) = True := eq_true (by decide)
      clear lp
      rw [fbC_33_19]
      simp (disch := omega) only [hgA.1, hgA.2, fl_KF, fl_RF, o1, fl_lit, fl_nadd, fl_nmul, fl_ndiv, fl_nsub, fl_msub, fl_nle, fl_nlt, fl_neq, fl_nclamp, fl_nin, fl_ltT, fl_ltF, fl_leT, fl_leF, fl_eqT, fl_eqF, decide_true, decide_false, Bool.true_and, Bool.and_true, Bool.false_and, Bool.and_false, if_true, if_false, Bool.false_eq_true, Option.isSome_some, Option.getD_some, not_true_eq_false, not_false_eq_true, Option.toList_some, Option.toList_none, List.cons_append, List.nil_append, ng, fbE_31, x2, fbP_33_51]
    have lp' := lp.trans fin
    clear lp fin
    rw [fbE_33]
    simp (disch := omega) only [hg.1, hg.2, fl_KF, fl_RF, o1, fl_lit, fl_nadd, fl_nmul, fl_ndiv, fl_nsub, fl_msub, fl_nle, fl_nlt, fl_neq, fl_nclamp, fl_nin, fl_ltT, fl_ltF, fl_leT, fl_leF, fl_eqT, fl_eqF, decide_true, decide_false, Bool.true_and, Bool.and_true, Bool.false_and, Bool.and_false, if_true, if_false, Bool.false_eq_true, Option.isSome_some, Option.getD_some, not_true_eq_false, not_false_eq_true, Option.toList_some, Option.toList_none, List.cons_append, List.nil_append, fbE_31, e2, fbP_33_7]
    exact lp'
  · rw [if_neg l, fbE_33]
    simp (disch := omega) only [hg.1, hg.2, fl_KF, fl_RF, o1, fl_lit, fl_nadd, fl_nmul, fl_ndiv, fl_nsub, fl_msub, fl_nle, fl_nlt, fl_neq, fl_nclamp, fl_nin, fl_ltT, fl_ltF, fl_leT, fl_leF, fl_eqT, fl_eqF, decide_true, decide_false, Bool.true_and, Bool.and_true, Bool.false_and, Bool.and_false, if_true, if_false, Bool.false_eq_true, Option.isSome_some, Option.getD_some, not_true_eq_false, not_false_eq_true, Option.toList_some, Option.toList_none, List.cons_append, List.nil_append, fbE_31, e2, fbP_33_7]
def fl_sB (h : fl_H) (n : Nat) (v : Int32) (i : Nat) : fl_H := fl_wi h 261 (fl_seg n i (fun j => Int32.ofNat (fl_sby v (24 - 8 * j))) (fl_i h 261))
theorem fo_sign_r {n : Nat} (hg : fl_g k0 h) (hn : n + 4 ≤ 80) (e2 : fl_i h 259 4 = Int32.ofNat n) (v : Int32) : fl_Rn fl_C 34 18 [some (.ref 259), some (.int v), some (.int (Int32.ofNat 0))] [] h = some (some (some (.int (Int32.ofNat (n + 4)))), fl_wi (fl_sB h n v 4) 259 (fl_up (fl_i h 259) 4 (Int32.ofNat (n + 4)))) := by
  have lp := fl_iter (fun i => fl_Rn fl_C 34 18 [some (.ref 259), some (.int v), some (.int (Int32.ofNat i))] [] (fl_sB h n v i)) 4 (by
    intro i hi
    try dsimp only
    have sg := fl_seg_succ (a := n) (k := i) (f := fun j => Int32.ofNat (fl_sby v (24 - 8 * j))) (old := fl_i h 261) rfl
    have sb := fl_sby_s (v := v) (s := 24 - 8 * i) (by omega)
    unfold fl_sB
    rw [fbC_34_18]
    simp (disch := omega) only [fl_k_wl, fl_r_wl, fl_i_wl, fl_l_wl, fl_1_wl, fl_k_wi, fl_r_wi, fl_l_wi, fl_1_wi, fl_i_wi, fl_k_si, fl_r_si, fl_l_si, fl_k_sl, fl_r_sl, fl_i_sl, fl_up_self, fl_up_ne, fl_si_wi, fl_sl_wl, fl_wi_wi, fl_wl_wl, hg.1, hg.2, fl_KM, fl_RM, fl_lit, fl_nadd, fl_nmul, fl_ndiv, fl_nsub, fl_msub, fl_nle, fl_nlt, fl_neq, fl_nclamp, fl_nin, fl_ltT, fl_ltF, fl_leT, fl_leF, fl_eqT, fl_eqF, decide_true, decide_false, Bool.true_and, Bool.and_true, Bool.false_and, Bool.and_false, if_true, if_false, Bool.false_eq_true, Option.isSome_some, Option.getD_some, not_true_eq_false, not_false_eq_true, Option.toList_some, Option.toList_none, List.cons_append, List.nil_append, e2, sb, sg, fbC_34_47])
  have e0 : fl_sB h n v 0 = h := by unfold fl_sB; exact fl_wi_self fl_seg_0
  try dsimp only at lp
  rw [e0] at lp
  rw [lp]
  clear lp e0
  unfold fl_sB
  rw [fbC_34_18]
  simp (disch := omega) only [fl_k_wl, fl_r_wl, fl_i_wl, fl_l_wl, fl_1_wl, fl_k_wi, fl_r_wi, fl_l_wi, fl_1_wi, fl_i_wi, fl_k_si, fl_r_si, fl_l_si, fl_k_sl, fl_r_sl, fl_i_sl, fl_up_self, fl_up_ne, fl_si_wi, fl_sl_wl, fl_wi_wi, fl_wl_wl, hg.1, hg.2, fl_KM, fl_RM, fl_lit, fl_nadd, fl_nmul, fl_ndiv, fl_nsub, fl_msub, fl_nle, fl_nlt, fl_neq, fl_nclamp, fl_nin, fl_ltT, fl_ltF, fl_leT, fl_leF, fl_eqT, fl_eqF, decide_true, decide_false, Bool.true_and, Bool.and_true, Bool.false_and, Bool.and_false, if_true, if_false, Bool.false_eq_true, Option.isSome_some, Option.getD_some, not_true_eq_false, not_false_eq_true, Option.toList_some, Option.toList_none, List.cons_append, List.nil_append, e2, fbC_34_63]
theorem fo_sign_b {n : Nat} (hg : fl_g k0 h) (hn : n ≤ 80) (e2 : fl_i h 259 4 = Int32.ofNat n) (v : Int32) : ∃ y, fl_qt h y ∧ fl_cl fl_C 34 [.ref 259, .int v] h = if n + 4 ≤ 80 then some (some (some (.int (Int32.ofNat (n + 4)))), fl_wi (fl_sB y n v 4) 259 (fl_up (fl_i y 259) 4 (Int32.ofNat (n + 4)))) else some (some (some (.int (-Int32.ofNat 1))), y) := by
  have q0 := fl_qt_0 (h := h) (x := Int32.ofNat 0)
  have hg0 := fl_qo_g hg (fl_qt_qo q0)
  have e4 : fl_i (fl_wi h 259 (fl_up (fl_i h 259) 0 (Int32.ofNat 0))) 259 4 = Int32.ofNat n := by rw [fl_i_wi, if_pos rfl, fl_up_ne (by omega)]; exact e2
  refine ⟨_, q0, ?_⟩
  by_cases l : n + 4 ≤ 80
  · rw [if_pos l]
    have r := fo_sign_r hg0 l e4 v
    rw [fbE_34, show fl_si h 259 0 0 = fl_wi h 259 (fl_up (fl_i h 259) 0 (Int32.ofNat 0)) from fl_si_wi]
    generalize fl_wi h 259 (fl_up (fl_i h 259) 0 (Int32.ofNat 0)) = Y at hg0 e4 r ⊢
    rw [fbC_34_5]
    simp (disch := omega) only [hg.1, hg.2, hg0.1, hg0.2, fl_KM, fl_RM, fl_lit, fl_nadd, fl_nmul, fl_ndiv, fl_nsub, fl_msub, fl_nle, fl_nlt, fl_neq, fl_nclamp, fl_nin, fl_ltT, fl_ltF, fl_leT, fl_leF, fl_eqT, fl_eqF, decide_true, decide_false, Bool.true_and, Bool.and_true, Bool.false_and, Bool.and_false, if_true, if_false, Bool.false_eq_true, Option.isSome_some, Option.getD_some, not_true_eq_false, not_false_eq_true, Option.toList_some, Option.toList_none, List.cons_append, List.nil_append, e4]
    exact r
  · rw [if_neg l]
    rw [fbE_34, show fl_si h 259 0 0 = fl_wi h 259 (fl_up (fl_i h 259) 0 (Int32.ofNat 0)) from fl_si_wi]
    generalize fl_wi h 259 (fl_up (fl_i h 259) 0 (Int32.ofNat 0)) = Y at hg0 e4 ⊢
    rw [fbC_34_5]
    simp (disch := omega) only [hg.1, hg.2, hg0.1, hg0.2, fl_KM, fl_RM, fl_lit, fl_nadd, fl_nmul, fl_ndiv, fl_nsub, fl_msub, fl_nle, fl_nlt, fl_neq, fl_nclamp, fl_nin, fl_ltT, fl_ltF, fl_leT, fl_leF, fl_eqT, fl_eqF, decide_true, decide_false, Bool.true_and, Bool.and_true, Bool.false_and, Bool.and_false, if_true, if_false, Bool.false_eq_true, Option.isSome_some, Option.getD_some, not_true_eq_false, not_false_eq_true, Option.toList_some, Option.toList_none, List.cons_append, List.nil_append, e4]
theorem fl_sA_qT {n i : Nat} {v : Int32} : fl_qT h (fl_sA h n v i) := by
  unfold fl_sA
  refine ⟨by rw [fl_1_wi, fl_1_wl], by rw [fl_k_wi, fl_k_wl], by rw [fl_r_wi, fl_r_wl], fun q h1 => by rw [fl_l_wi, fl_l_wl, if_neg h1], fun q j h1 h2 h3 h4 => ?_⟩
  rw [fl_i_wi, fl_i_wl]
  by_cases e : q = 1
  · subst e; rw [if_pos rfl, fl_up_ne (by omega)]
  · rw [if_neg e]
theorem fl_sB_qT {n i : Nat} {v : Int32} {x : Int32} : fl_qT h (fl_wi (fl_sB h n v i) 259 (fl_up (fl_i h 259) 4 x)) := by
  unfold fl_sB
  refine ⟨by rw [fl_1_wi, fl_1_wi], by rw [fl_k_wi, fl_k_wi], by rw [fl_r_wi, fl_r_wi], fun q h1 => by rw [fl_l_wi, fl_l_wi], fun q j h1 h2 h3 h4 => ?_⟩
  rw [fl_i_wi]
  by_cases e : q = 259
  · subst e; rw [if_pos rfl, fl_up_ne (by omega)]
  · rw [if_neg e, fl_i_wi, if_neg h4]
theorem fo_sign (I : fl_Inv k0 c h) (v : Int32) : fl_both k0 c 33 34 [.int v] [.int v] h := by
  obtain ⟨n, tx, iT⟩ := I.2.2.1
  have a := fo_sign_a I.1 iT.1 iT.2.2.1 iT.2.2.2.1 v
  by_cases l : n + 4 ≤ 80
  · rw [if_pos l] at a
    have q1 := fl_sA_qT (h := h) (n := n) (i := 4) (v := v)
    have n4 : fl_i (fl_sA h n v 4) 259 4 = Int32.ofNat n := by unfold fl_sA; rw [fl_i_wi, if_neg (by omega), fl_i_wl]; exact iT.2.1
    obtain ⟨y, q, e⟩ := fo_sign_b (fl_qT_g I.1 q1) iT.1 n4 v
    rw [if_pos l] at e
    refine ⟨_, _, _, a, e, ?_⟩
    refine fl_Inv_qT I (fl_qT_tr q1 (fl_qT_tr (fl_qt_qT q) fl_sB_qT)) (n := n + 4) (tx := fun j => if j < n then tx j else fl_sby v (24 - 8 * (j - n))) l ?_ ?_ (fun j hj => ?_)
    · rw [fl_i_wi, if_pos rfl, fl_up_self]
    · rw [fl_i_wi, if_neg (by omega)]; unfold fl_sB; rw [fl_i_wi, if_neg (by omega), q.2.2.2.2 1 2 (by omega)]; unfold fl_sA; rw [fl_i_wi, if_pos rfl, fl_up_self]
    · have e261 : fl_i (fl_wi (fl_sB y n v 4) 259 (fl_up (fl_i y 259) 4 (Int32.ofNat (n + 4)))) 261 j = fl_seg n 4 (fun j => Int32.ofNat (fl_sby v (24 - 8 * j))) (fl_i y 261) j := by
        rw [fl_i_wi, if_neg (by omega)]; unfold fl_sB; rw [fl_i_wi, if_pos rfl]
      have e3 : fl_l (fl_wi (fl_sB y n v 4) 259 (fl_up (fl_i y 259) 4 (Int32.ofNat (n + 4)))) 3 j = fl_seg n 4 (fun j => Int64.ofNat (fl_sby v (24 - 8 * j))) (fl_l h 3) j := by
        rw [fl_l_wi]; unfold fl_sB; rw [fl_l_wi, q.2.2.2.1]; unfold fl_sA; rw [fl_l_wi, fl_l_wl, if_pos rfl]
      rw [e261, e3]
      by_cases z : j < n
      · rw [if_pos z, fl_seg_out (by omega), fl_seg_out (by omega), q.2.2.2.2 261 j (by omega)]
        have := iT.2.2.2.2 j z
        refine ⟨this.1, ?_, this.2.2⟩
        unfold fl_sA; rw [fl_i_wi, if_neg (by omega), fl_i_wl]; exact this.2.1
      · rw [if_neg z]
        obtain ⟨d, rfl⟩ : ∃ d, j = n + d := ⟨j - n, by omega⟩
        rw [fl_seg_in (by omega), fl_seg_in (by omega), Nat.add_sub_cancel_left]
        exact ⟨fl_sby_lt, rfl, rfl⟩
  · rw [if_neg l] at a
    obtain ⟨y, q, e⟩ := fo_sign_b I.1 iT.1 iT.2.1 v
    rw [if_neg l] at e
    exact ⟨_, h, _, a, e, fl_Inv_qt I q⟩
end
