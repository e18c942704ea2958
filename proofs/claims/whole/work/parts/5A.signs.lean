/-! SIGNS that tell values; patterns -/
def fl_sok (t : Nat) : Bool := decide (t = 48) || (decide (t = 49) || decide (t = 117))
def fl_sval (t : Nat) : Nat := if t = 48 then 0 else if t = 49 then 1 else 2
theorem fl_sval_le (t : Nat) : fl_sval t ≤ 2 := by
  unfold fl_sval
  repeat' split
  all_goals omega
set_option maxRecDepth 100000 in
theorem fl_sok_77 : ∀ t, t < 256 → fl_any (fun j => decide (fl_sb8 6 j = Int32.ofNat t)) (fl_sl8 6) = fl_sok t ∧ (fl_sok t = true → fl_frst (fun j => decide (fl_sb8 6 j = Int32.ofNat t)) (fl_sl8 6) = fl_sval t) := by decide
set_option maxRecDepth 100000 in
theorem fl_sok_107 : ∀ t, t < 256 → decide (lg_cmp (Int64.ofNat t) 48 = 0) = decide (t = 48) ∧ decide (lg_cmp (Int64.ofNat t) 49 = 0) = decide (t = 49) ∧ decide (lg_cmp (Int64.ofNat t) 117 = 0) = decide (t = 117) := by decide
/-- the number of the signs from a place on -/
def fl_pt (tx : Nat → Nat) (a : Nat) : Nat → Nat
  | 0 => 0
  | n + 1 => fl_pt tx a n + fl_sval (tx (a + n)) * 4 ^ n
theorem fl_pt_lt {tx : Nat → Nat} {a : Nat} : ∀ n, fl_pt tx a n < 4 ^ n
  | 0 => Nat.zero_lt_one
  | n + 1 => by
    have := fl_pt_lt (tx := tx) (a := a) n
    have h2 := Nat.mul_le_mul_right (4 ^ n) (fl_sval_le (tx (a + n)))
    rw [fl_pt, Nat.pow_succ]
    omega
theorem fl_pt_dig {tx : Nat → Nat} {a k : Nat} : ∀ {n}, k < n → fl_pt tx a n / 4 ^ k % 4 = fl_sval (tx (a + k))
  | n + 1, h => by
    have hp : 0 < 4 ^ k := Nat.pow_pos (by decide)
    rw [fl_pt]
    by_cases e : k = n
    · subst e
      rw [Nat.add_mul_div_right _ _ hp, Nat.div_eq_of_lt (fl_pt_lt k), Nat.zero_add]
      have := fl_sval_le (tx (a + k))
      omega
    · have hk : k < n := by omega
      have : fl_sval (tx (a + n)) * 4 ^ n = fl_sval (tx (a + n)) * 4 ^ (n - k - 1) * 4 * 4 ^ k := by
        rw [Nat.mul_assoc, Nat.mul_assoc, ← Nat.pow_succ', ← Nat.pow_add, show n - k - 1 + k.succ = n by omega]
      rw [this, Nat.add_mul_div_right _ _ hp, Nat.add_mul_mod_self_right]
      exact fl_pt_dig hk
set_option maxRecDepth 100000 in
theorem fl_or4 : ∀ k, k < 4 → ∀ s, s < 4 ^ k → ∀ x, x < 4 → (Int32.ofNat s ||| (Int32.ofNat x <<< ((Int32.ofNat (2 * k)) &&& 31))) = Int32.ofNat (s + x * 4 ^ k) := by decide
theorem fl_and3 : ∀ x, x < 4 → Int32.ofNat x &&& 3 = Int32.ofNat x := by decide
section
variable {k0 : Nat → Nat × Nat} {i0 : Nat → Nat → Int32} {h : fl_H}
theorem fr_77u (sk : fl_sk k0 i0) (hg : fl_g k0 h) (hs : fl_st k0 i0 h) {t : Nat} (ht : t < 256) : fl_cl fl_C 77 [.ref 1048582, .int (Int32.ofNat t)] h = some (some (some (.int (fl_oi (fl_sok t) (fl_sval t)))), h) := by
  have a := fr_77 sk hg hs (i := 6) (by omega) (Int32.ofNat t)
  have b := fl_sok_77 t ht
  rw [b.1] at a
  refine a.trans ?_
  unfold fl_oi
  by_cases c : fl_sok t = true
  · rw [if_pos c, if_pos c, b.2 c]
  · rw [if_neg c, if_neg c]
theorem fc_107 {t : Nat} (ht : t < 256) : fl_cl fl_C 107 [.long (Int64.ofNat t)] h = some (some (some (.int (fl_oi (fl_sok t) (fl_sval t)))), h) := by
  have b := fl_sok_107 t ht
  rw [fbE_107]
  simp only [decide_not, b.1, b.2.1, b.2.2]
  unfold fl_oi fl_sok fl_sval
  by_cases c : t = 48
  · simp [c]
  · by_cases c1 : t = 49
    · simp [c1]
    · by_cases c2 : t = 117
      · simp [c2]
      · simp [c, c1, c2]
/-- signs that can't stand: too far on, or none of the three -/
def fl_bad (tx : Nat → Nat) (most : Nat) (p : Nat) : Bool := decide (most ≤ p) || !fl_sok (tx p)
theorem fl_modS {p n : Nat} (hn : 0 < n) : (p + 1) % n = if p % n + 1 = n then 0 else p % n + 1 := by
  have := Nat.mod_lt p hn
  by_cases e : n = 1
  · subst e; rw [Nat.mod_one, Nat.mod_one, if_pos rfl]
  · rw [Nat.add_mod, Nat.mod_eq_of_lt (show 1 < n by omega)]
    by_cases c : p % n + 1 = n
    · rw [if_pos c, c, Nat.mod_self]
    · rw [if_neg c, Nat.mod_eq_of_lt (by omega)]
theorem fc_106 (hg : fl_g k0 h) {tn : Nat} {tx : Nat → Nat} (iT : fl_iT h tn tx) {p : Nat} (hp : p < tn) : fl_cl fl_C 106 [.ref 1, .int (Int32.ofNat p)] h = some (some (some (.long (Int64.ofNat (tx p)))), h) := by
  have o := fl_o1 (k0 := k0)
  have o1 := o.1
  have o2 := o.2.1
  have n80 := iT.1
  have ei := fc_at o.2 hg (show p < 80 by omega)
  rw [show 1 + 2 = 3 from rfl, (iT.2.2.2.2 p hp).2.2] at ei
  clear iT
  rw [fbE_106]
  simp (disch := omega) only [hg.1, hg.2, o1, o2, fl_lit, fl_nadd, fl_nmul, fl_ndiv, fl_nsub, fl_msub, fl_nle, fl_nlt, fl_neq, fl_nclamp, fl_nin, fl_ltT, fl_ltF, fl_leT, fl_leF, fl_eqT, fl_eqF, decide_true, decide_false, Bool.true_and, Bool.and_true, Bool.false_and, Bool.and_false, if_true, if_false, Bool.false_eq_true, Option.isSome_some, Option.getD_some, not_true_eq_false, not_false_eq_true, Option.toList_some, Option.toList_none, List.cons_append, List.nil_append, ei, fbP_106_8]
theorem fc_31 (hg : fl_g k0 h) {tn : Nat} {tx : Nat → Nat} (iT : fl_iT h tn tx) : fl_cl fl_C 31 [.ref 1] h = some (some (some (.int (Int32.ofNat tn))), h) := by
  have o1 := (fl_o1 (k0 := k0)).1
  have e := iT.2.2.2.1
  clear iT
  rw [fbE_31]
  simp (disch := omega) only [hg.1, o1, fl_lit, fl_nadd, fl_nmul, fl_ndiv, fl_nsub, fl_msub, fl_nle, fl_nlt, fl_neq, fl_nclamp, fl_nin, fl_ltT, fl_ltF, fl_leT, fl_leF, fl_eqT, fl_eqF, decide_true, decide_false, Bool.true_and, Bool.and_true, Bool.false_and, Bool.and_false, if_true, if_false, Bool.false_eq_true, Option.isSome_some, Option.getD_some, not_true_eq_false, not_false_eq_true, Option.toList_some, Option.toList_none, List.cons_append, List.nil_append, e]
theorem fc_108 (hg : fl_g k0 h) {tn : Nat} {tx : Nat → Nat} (iT : fl_iT h tn tx) {grp most : Nat} (h0 : 0 < grp) (h4 : grp ≤ 4) (hm : most < 1000) : fl_cl fl_C 108 [.ref 0, .int (Int32.ofNat grp), .int (Int32.ofNat most)] h = some (some (some (.int (if fl_any (fl_bad tx most) tn = true then Int32.ofNat (fl_frst (fl_bad tx most) tn) else if tn % grp = 0 then -Int32.ofNat 1 else Int32.ofNat tn))), h) := by
  have o1 := (fl_o1 (k0 := k0)).1
  have e31 := fc_31 hg iT
  have n80 := iT.1
  have lp := fl_findN (fun p => fl_Rn fl_C 108 5 [some (.ref 0), some (.int (Int32.ofNat grp)), some (.int (Int32.ofNat most)), some (.int (Int32.ofNat (p % grp))), some (.int (Int32.ofNat p))] [] h) (fun p => some (some (some (.int (Int32.ofNat p))), h)) (fl_bad tx most) tn (by
    intro p hp
    have e106 := fc_106 hg iT hp
    have e107 := fc_107 (h := h) (iT.2.2.2.2 p hp).1
    have md := Nat.mod_lt p h0
    have m1 := fl_modS (p := p) h0
    clear iT
    try dsimp only
    rw [fbC_108_5, m1]
    unfold fl_bad
    by_cases c : most ≤ p
    · simp (disch := omega) only [hg.1, hg.2, fl_KF, fl_RF, o1, fl_lit, fl_nadd, fl_nmul, fl_ndiv, fl_nsub, fl_msub, fl_nle, fl_nlt, fl_neq, fl_nclamp, fl_nin, fl_ltT, fl_ltF, fl_leT, fl_leF, fl_eqT, fl_eqF, decide_true, decide_false, Bool.true_and, Bool.and_true, Bool.false_and, Bool.and_false, if_true, if_false, Bool.false_eq_true, Option.isSome_some, Option.getD_some, not_true_eq_false, not_false_eq_true, Option.toList_some, Option.toList_none, List.cons_append, List.nil_append, e31, fbP_108_14, fbC_108_39, decide_eq_true c, Bool.true_or]
    · rw [decide_eq_false c, Bool.false_or]
      by_cases k : fl_sok (tx p) = true
      · have n1 : (fl_oi true (fl_sval (tx p)) = -Int32.ofNat 1) = False := eq_false (by
          have := fl_sval_le (tx p)
          rcases (show fl_sval (tx p) = 0 ∨ fl_sval (tx p) = 1 ∨ fl_sval (tx p) = 2 by omega) with e | e | e <;> rw [e] <;> decide)
        by_cases d : p % grp + 1 = grp
        · rw [if_pos d]
          simp (disch := omega) only [hg.1, hg.2, fl_KF, fl_RF, o1, fl_lit, fl_nadd, fl_nmul, fl_ndiv, fl_nsub, fl_msub, fl_nle, fl_nlt, fl_neq, fl_nclamp, fl_nin, fl_ltT, fl_ltF, fl_leT, fl_leF, fl_eqT, fl_eqF, decide_true, decide_false, Bool.true_and, Bool.and_true, Bool.false_and, Bool.and_false, if_true, if_false, Bool.false_eq_true, Option.isSome_some, Option.getD_some, not_true_eq_false, not_false_eq_true, Option.toList_some, Option.toList_none, List.cons_append, List.nil_append, e31, fbP_108_14, e106, fbP_108_32, e107, k, fbP_108_35, n1, Bool.not_true, d]
        · rw [if_neg d]
          simp (disch := omega) only [hg.1, hg.2, fl_KF, fl_RF, o1, fl_lit, fl_nadd, fl_nmul, fl_ndiv, fl_nsub, fl_msub, fl_nle, fl_nlt, fl_neq, fl_nclamp, fl_nin, fl_ltT, fl_ltF, fl_leT, fl_leF, fl_eqT, fl_eqF, decide_true, decide_false, Bool.true_and, Bool.and_true, Bool.false_and, Bool.and_false, if_true, if_false, Bool.false_eq_true, Option.isSome_some, Option.getD_some, not_true_eq_false, not_false_eq_true, Option.toList_some, Option.toList_none, List.cons_append, List.nil_append, e31, fbP_108_14, e106, fbP_108_32, e107, fbP_108_35, n1, k, Bool.not_true]
      · have k' : fl_sok (tx p) = false := by cases e : fl_sok (tx p); rfl; exact absurd e k
        have n1 : (fl_oi false (fl_sval (tx p)) = -Int32.ofNat 1) = True := eq_true rfl
        rw [k'] at e107
        simp (disch := omega) only [hg.1, hg.2, fl_KF, fl_RF, o1, fl_lit, fl_nadd, fl_nmul, fl_ndiv, fl_nsub, fl_msub, fl_nle, fl_nlt, fl_neq, fl_nclamp, fl_nin, fl_ltT, fl_ltF, fl_leT, fl_leF, fl_eqT, fl_eqF, decide_true, decide_false, Bool.true_and, Bool.and_true, Bool.false_and, Bool.and_false, if_true, if_false, Bool.false_eq_true, Option.isSome_some, Option.getD_some, not_true_eq_false, not_false_eq_true, Option.toList_some, Option.toList_none, List.cons_append, List.nil_append, e31, fbP_108_14, e106, fbP_108_32, e107, fbP_108_35, n1, k', Bool.not_false, fbC_108_39])
  have fin : fl_Rn fl_C 108 5 [some (.ref 0), some (.int (Int32.ofNat grp)), some (.int (Int32.ofNat most)), some (.int (Int32.ofNat (tn % grp))), some (.int (Int32.ofNat tn))] [] h = some (some (some (.int (if tn % grp = 0 then -Int32.ofNat 1 else Int32.ofNat tn))), h) := by
    have md := Nat.mod_lt tn h0
    clear iT lp
    rw [fbC_108_5]
    by_cases d : tn % grp = 0
    · rw [if_pos d, d]
      simp (disch := omega) only [hg.1, hg.2, fl_KF, fl_RF, o1, fl_lit, fl_nadd, fl_nmul, fl_ndiv, fl_nsub, fl_msub, fl_nle, fl_nlt, fl_neq, fl_nclamp, fl_nin, fl_ltT, fl_ltF, fl_leT, fl_leF, fl_eqT, fl_eqF, decide_true, decide_false, Bool.true_and, Bool.and_true, Bool.false_and, Bool.and_false, if_true, if_false, Bool.false_eq_true, Option.isSome_some, Option.getD_some, not_true_eq_false, not_false_eq_true, Option.toList_some, Option.toList_none, List.cons_append, List.nil_append, e31, fbP_108_14]
    · rw [if_neg d]
      simp (disch := omega) only [hg.1, hg.2, fl_KF, fl_RF, o1, fl_lit, fl_nadd, fl_nmul, fl_ndiv, fl_nsub, fl_msub, fl_nle, fl_nlt, fl_neq, fl_nclamp, fl_nin, fl_ltT, fl_ltF, fl_leT, fl_leF, fl_eqT, fl_eqF, decide_true, decide_false, Bool.true_and, Bool.and_true, Bool.false_and, Bool.and_false, if_true, if_false, Bool.false_eq_true, Option.isSome_some, Option.getD_some, not_true_eq_false, not_false_eq_true, Option.toList_some, Option.toList_none, List.cons_append, List.nil_append, e31, fbP_108_14, fbP_108_78]
  try dsimp only at lp
  rw [Nat.zero_mod] at lp
  rw [fbE_108]
  refine lp.trans ?_
  rw [fin]
  split <;> rfl
theorem fc_109 (hg : fl_g k0 h) {tn : Nat} {tx : Nat → Nat} (iT : fl_iT h tn tx) {a n : Nat} (h4 : n ≤ 4) (ha : a + n ≤ tn) (ok : ∀ p, p < tn → fl_sok (tx p) = true) : fl_cl fl_C 109 [.ref 0, .int (Int32.ofNat a), .int (Int32.ofNat n)] h = some (some (some (.int (Int32.ofNat (fl_pt tx a n)))), h) := by
  have o1 := (fl_o1 (k0 := k0)).1
  have n80 := iT.1
  have lp := fl_iter (fun k => fl_Rn fl_C 109 5 [some (.ref 0), some (.int (Int32.ofNat a)), some (.int (Int32.ofNat n)), some (.int (Int32.ofNat (fl_pt tx a k))), some (.int (Int32.ofNat k))] [] h) n (by
    intro k hk
    have e106 := fc_106 hg iT (show a + k < tn by omega)
    have e107 := fc_107 (h := h) (iT.2.2.2.2 (a + k) (by omega)).1
    rw [ok (a + k) (by omega)] at e107
    have v2 := fl_sval_le (tx (a + k))
    have oi : fl_oi true (fl_sval (tx (a + k))) = Int32.ofNat (fl_sval (tx (a + k))) := rfl
    have o4 := fl_or4 k (by omega) (fl_pt tx a k) (fl_pt_lt k) (fl_sval (tx (a + k))) (by omega)
    have a3 := fl_and3 (fl_sval (tx (a + k))) (by omega)
    rw [show (31 : Int32) = Int32.ofNat 31 from rfl] at o4
    rw [show (3 : Int32) = Int32.ofNat 3 from rfl] at a3
    rw [oi] at e107
    clear iT ok
    try dsimp only
    rw [fl_pt, fbC_109_5]
    simp (disch := omega) only [hg.1, hg.2, fl_KF, fl_RF, o1, fl_lit, fl_nadd, fl_nmul, fl_ndiv, fl_nsub, fl_msub, fl_nle, fl_nlt, fl_neq, fl_nclamp, fl_nin, fl_ltT, fl_ltF, fl_leT, fl_leF, fl_eqT, fl_eqF, decide_true, decide_false, Bool.true_and, Bool.and_true, Bool.false_and, Bool.and_false, if_true, if_false, Bool.false_eq_true, Option.isSome_some, Option.getD_some, not_true_eq_false, not_false_eq_true, Option.toList_some, Option.toList_none, List.cons_append, List.nil_append, e106, fbP_109_23, e107, fbP_109_26, a3, o4])
  clear iT ok
  rw [fbE_109]
  refine lp.trans ?_
  try dsimp only
  rw [fbC_109_5]
  simp (disch := omega) only [fl_lit, fl_nadd, fl_nmul, fl_ndiv, fl_nsub, fl_msub, fl_nle, fl_nlt, fl_neq, fl_nclamp, fl_nin, fl_ltT, fl_ltF, fl_leT, fl_leF, fl_eqT, fl_eqF, decide_true, decide_false, Bool.true_and, Bool.and_true, Bool.false_and, Bool.and_false, if_true, if_false, Bool.false_eq_true, Option.isSome_some, Option.getD_some, not_true_eq_false, not_false_eq_true, Option.toList_some, Option.toList_none, List.cons_append, List.nil_append]
end
