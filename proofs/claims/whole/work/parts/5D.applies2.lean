/-! applies, would: the reference's side -/
/-- the reference takes the text -/
def fl_rd (h : fl_H) (tn : Nat) : fl_H := fl_wi h 259 (fl_up (fl_up (fl_up (fl_i h 259) 6 (Int32.ofNat tn)) 4 (Int32.ofNat 0)) 5 (Int32.ofNat 0))
/-- the memory, some ticks more -/
def fl_mT (tx : Nat → Nat) (g : Nat → Nat) (M : Nat → Int32) : Nat → Nat → Int32
  | 0 => M
  | k + 1 => fl_up (fl_up (fl_up (fl_mT tx g M k) (78 + (g 76 + k)) (Int32.ofNat (fl_pt tx (k * g 1) (g 1)))) (102 + (g 76 + k)) (Int32.ofNat (g 77))) 76 (Int32.ofNat (g 76 + k + 1))
abbrev fl_S1 (q j : Nat) : Prop := (266 ≤ q ∧ q ≤ 282) ∨ (q = 259 ∧ (j = 0 ∨ j = 1 ∨ j = 4 ∨ j = 5 ∨ j = 6 ∨ j = 12 ∨ j = 16 ∨ j = 29 ∨ j = 32)) ∨ (q = 262 ∧ j < 126) ∨ q = 260
theorem fl_S1_S0 {q j : Nat} (z : fl_S1 q j) : fl_S0 q j := by
  rcases z with z | z | z | z
  · exact fl_S0_a (by omega)
  · exact fl_S0_b (by omega)
  · exact fl_S0_e (by omega)
  · exact fl_S0_j z
theorem fl_scr_S1 {q j : Nat} (z : fl_scr q j) : fl_S1 q j := by
  rcases z with z | z
  · exact Or.inl (by omega)
  · exact Or.inr (Or.inl (by omega))
section
variable {k0 : Nat → Nat × Nat} {i0 : Nat → Nat → Int32} {h h' : fl_H} {tx g : Nat → Nat} {tn : Nat}
theorem fr_129h (hg : fl_g k0 h) : fl_cl fl_C 129 [.ref 259] h = some (some (some (.int (fl_i h 262 1))), h) := by
  rw [fbE_129]
  simp (disch := omega) only [hg.1, hg.2, fl_KM, fl_RM, fl_lit, fl_nadd, fl_nmul, fl_ndiv, fl_nsub, fl_msub, fl_nle, fl_nlt, fl_neq, fl_nclamp, fl_nin, fl_ltT, fl_ltF, fl_leT, fl_leF, fl_eqT, fl_eqF, decide_true, decide_false, Bool.true_and, Bool.and_true, Bool.false_and, Bool.and_false, if_true, if_false, Bool.false_eq_true, Option.isSome_some, Option.getD_some, not_true_eq_false, not_false_eq_true, Option.toList_some, Option.toList_none, List.cons_append, List.nil_append]
theorem fr_130h (hg : fl_g k0 h) : fl_cl fl_C 130 [.ref 259] h = some (some (some (.int (fl_i h 262 76))), h) := by
  rw [fbE_130]
  simp (disch := omega) only [hg.1, hg.2, fl_KM, fl_RM, fl_lit, fl_nadd, fl_nmul, fl_ndiv, fl_nsub, fl_msub, fl_nle, fl_nlt, fl_neq, fl_nclamp, fl_nin, fl_ltT, fl_ltF, fl_leT, fl_leF, fl_eqT, fl_eqF, decide_true, decide_false, Bool.true_and, Bool.and_true, Bool.false_and, Bool.and_false, if_true, if_false, Bool.false_eq_true, Option.isSome_some, Option.getD_some, not_true_eq_false, not_false_eq_true, Option.toList_some, Option.toList_none, List.cons_append, List.nil_append]
theorem fr_72 (hg : fl_g k0 h) (e4 : fl_i h 259 4 = Int32.ofNat tn) : fl_cl fl_C 72 [.ref 259] h = some (some none, fl_rd h tn) := by
  unfold fl_rd
  rw [fbE_72]
  simp (disch := omega) only [fl_k_wl, fl_r_wl, fl_i_wl, fl_l_wl, fl_1_wl, fl_k_wi, fl_r_wi, fl_l_wi, fl_1_wi, fl_i_wi, fl_k_si, fl_r_si, fl_l_si, fl_k_sl, fl_r_sl, fl_i_sl, fl_up_self, fl_up_ne, fl_si_wi, fl_sl_wl, fl_wi_wi, fl_wl_wl, hg.1, fl_KM, fl_RM, fl_lit, fl_nadd, fl_nmul, fl_ndiv, fl_nsub, fl_msub, fl_nle, fl_nlt, fl_neq, fl_nclamp, fl_nin, fl_ltT, fl_ltF, fl_leT, fl_leF, fl_eqT, fl_eqF, decide_true, decide_false, Bool.true_and, Bool.and_true, Bool.false_and, Bool.and_false, if_true, if_false, Bool.false_eq_true, Option.isSome_some, Option.getD_some, not_true_eq_false, not_false_eq_true, Option.toList_some, Option.toList_none, List.cons_append, List.nil_append, e4, fbC_72_8, fbC_72_13]
theorem fl_rd_df : fl_df fl_S1 h (fl_rd h tn) := by
  unfold fl_rd
  refine fl_df_wi fl_df_rfl (fun j z => ?_)
  rw [fl_up_ne (by omega), fl_up_ne (by omega), fl_up_ne (by omega)]
theorem fl_rd_6 : fl_i (fl_rd h tn) 259 6 = Int32.ofNat tn := by
  unfold fl_rd; rw [fl_i_wi, if_pos rfl, fl_up_ne (by omega), fl_up_ne (by omega), fl_up_self]
theorem fl_rd_5 : fl_i (fl_rd h tn) 259 5 = Int32.ofNat 0 := by
  unfold fl_rd; rw [fl_i_wi, if_pos rfl, fl_up_self]
theorem fl_rd_4 : fl_i (fl_rd h tn) 259 4 = Int32.ofNat 0 := by
  unfold fl_rd; rw [fl_i_wi, if_pos rfl, fl_up_ne (by omega), fl_up_self]
theorem fl_rd_o {j : Nat} (hj : j ≠ 4 ∧ j ≠ 5 ∧ j ≠ 6) : fl_i (fl_rd h tn) 259 j = fl_i h 259 j := by
  unfold fl_rd; rw [fl_i_wi, if_pos rfl, fl_up_ne (by omega), fl_up_ne (by omega), fl_up_ne (by omega)]
theorem fl_rd_q {q : Nat} (hq : q ≠ 259) : fl_i (fl_rd h tn) q = fl_i h q := by
  unfold fl_rd; rw [fl_i_wi, if_neg hq]
theorem fl_rd_l : fl_l (fl_rd h tn) = fl_l h := by
  unfold fl_rd; rw [fl_l_wi]
theorem fl_mT_ge {M : Nat → Int32} {j : Nat} (hj : 126 ≤ j) : ∀ k, g 76 + k ≤ 24 → fl_mT tx g M k j = M j
  | 0, _ => rfl
  | k + 1, hk => by rw [fl_mT, fl_up_ne (by omega), fl_up_ne (by omega), fl_up_ne (by omega)]; exact fl_mT_ge hj k (by omega)
theorem fl_mT_mm {M : Nat → Int32} (m : ∀ j, j < 126 → M j = Int32.ofNat (g j)) : ∀ k, g 76 + k ≤ 24 → ∀ j, j < 126 → fl_mT tx g M k j = Int32.ofNat (fl_gT tx g k j)
  | 0, _, j, hj => m j hj
  | k + 1, hk, j, hj => by
    have ih := fl_mT_mm m k (by omega) j hj
    rw [fl_mT, fl_gT]
    unfold fl_t1
    rw [fl_gT_76, fl_gT_77]
    by_cases e1 : j = 76
    · subst e1; rw [fl_up_self, fl_up_self]
    · rw [fl_up_ne e1, fl_up_ne e1]
      by_cases e2 : j = 102 + (g 76 + k)
      · subst e2; rw [fl_up_self, fl_up_self]
      · rw [fl_up_ne e2, fl_up_ne e2]
        by_cases e3 : j = 78 + (g 76 + k)
        · subst e3; rw [fl_up_self, fl_up_self]
        · rw [fl_up_ne e3, fl_up_ne e3]; exact ih
theorem fr_145a (sk : fl_sk k0 i0) (hg : fl_g k0 h) (hs : fl_st k0 i0 h) (n80 : tn ≤ 80) (e6 : fl_i h 259 6 = Int32.ofNat tn) (tp : ∀ j, j < tn → tx j < 256 ∧ fl_i h 261 j = Int32.ofNat (tx j)) : fl_Rn fl_C 145 6 [some (.ref 259), some (.int (Int32.ofNat 0))] [] h = if fl_any (fl_bad tx 80) tn = true then some (some (some (.int (-Int32.ofNat 1 - Int32.ofNat (fl_frst (fl_bad tx 80) tn)))), h) else fl_Rn fl_C 145 6 [some (.ref 259), some (.int (Int32.ofNat tn))] [] h := by
  refine fl_findN (fun k => fl_Rn fl_C 145 6 [some (.ref 259), some (.int (Int32.ofNat k))] [] h) (fun k => some (some (some (.int (-Int32.ofNat 1 - Int32.ofNat k))), h)) (fl_bad tx 80) tn (fun k hk => ?_)
  have t := tp k hk
  have e77 := fr_77u sk hg hs t.1
  have t2 := t.2
  clear tp t sk hs
  try dsimp only
  rw [fbC_145_6]
  unfold fl_bad
  rw [decide_eq_false (show ¬ 80 ≤ k by omega), Bool.false_or]
  cases c : fl_sok (tx k) with
  | true =>
    rw [c] at e77
    have v2 := fl_sval_le (tx k)
    have oi : (Int32.ofNat 0 ≤ fl_oi true (fl_sval (tx k))) = True := by rw [fl_oi_le (by omega)]; exact eq_true rfl
    simp (disch := omega) only [hg.1, hg.2, fl_KM, fl_RM, fl_lit, fl_nadd, fl_nmul, fl_ndiv, fl_nsub, fl_msub, fl_nle, fl_nlt, fl_neq, fl_nclamp, fl_nin, fl_ltT, fl_ltF, fl_leT, fl_leF, fl_eqT, fl_eqF, decide_true, decide_false, Bool.true_and, Bool.and_true, Bool.false_and, Bool.and_false, if_true, if_false, Bool.false_eq_true, Option.isSome_some, Option.getD_some, not_true_eq_false, not_false_eq_true, Option.toList_some, Option.toList_none, List.cons_append, List.nil_append, e6, t2, e77, fbP_145_25, oi, Bool.not_true]
  | false =>
    rw [c] at e77
    have oi : (Int32.ofNat 0 ≤ fl_oi false (fl_sval (tx k))) = False := eq_false (by show ¬ (Int32.ofNat 0 ≤ -Int32.ofNat 1); decide)
    simp (disch := omega) only [hg.1, hg.2, fl_KM, fl_RM, fl_lit, fl_nadd, fl_nmul, fl_ndiv, fl_nsub, fl_msub, fl_nle, fl_nlt, fl_neq, fl_nclamp, fl_nin, fl_ltT, fl_ltF, fl_leT, fl_leF, fl_eqT, fl_eqF, decide_true, decide_false, Bool.true_and, Bool.and_true, Bool.false_and, Bool.and_false, if_true, if_false, Bool.false_eq_true, Option.isSome_some, Option.getD_some, not_true_eq_false, not_false_eq_true, Option.toList_some, Option.toList_none, List.cons_append, List.nil_append, e6, t2, e77, fbP_145_25, oi, Bool.not_false]
theorem fr_145i (sk : fl_sk k0 i0) (hg : fl_g k0 h) (hs : fl_st k0 i0 h) (n80 : tn ≤ 80) (tp : ∀ j, j < tn → tx j < 256 ∧ fl_i h 261 j = Int32.ofNat (tx j)) (ok : ∀ p, p < tn → fl_sok (tx p) = true) {p k : Nat} (m1 : fl_i h 262 1 = Int32.ofNat p) (hp : p ≤ 4) (hk : k * p + p ≤ tn) (n : Int32) (B : Int64) : fl_Rn fl_C 145 106 [some (.ref 259), some (.int n), some (.long B), none, some (.int (Int32.ofNat k)), some (.int (Int32.ofNat 0)), some (.int (Int32.ofNat 0))] [] h = fl_Rn fl_C 145 106 [some (.ref 259), some (.int n), some (.long B), none, some (.int (Int32.ofNat k)), some (.int (Int32.ofNat (fl_pt tx (k * p) p))), some (.int (Int32.ofNat p))] [] h := by
  refine fl_iter (fun i => fl_Rn fl_C 145 106 [some (.ref 259), some (.int n), some (.long B), none, some (.int (Int32.ofNat k)), some (.int (Int32.ofNat (fl_pt tx (k * p) i))), some (.int (Int32.ofNat i))] [] h) p (fun i hi => ?_)
  have t := tp (k * p + i) (by omega)
  have e77 := fr_77u sk hg hs t.1
  rw [ok (k * p + i) (by omega)] at e77
  have v2 := fl_sval_le (tx (k * p + i))
  have oi : fl_oi true (fl_sval (tx (k * p + i))) = Int32.ofNat (fl_sval (tx (k * p + i))) := rfl
  have o4 := fl_or4 i (by omega) (fl_pt tx (k * p) i) (fl_pt_lt i) (fl_sval (tx (k * p + i))) (by omega)
  rw [show (31 : Int32) = Int32.ofNat 31 from rfl] at o4
  rw [oi] at e77
  have t2 := t.2
  have e129 := fr_129h hg
  rw [m1] at e129
  have cm : p * k + i = k * p + i := by rw [Nat.mul_comm]
  have lt : k * p + i < 80 := by omega
  clear tp t sk hs ok m1
  try dsimp only
  rw [fl_pt, fbC_145_106]
  simp (disch := omega) only [hg.1, hg.2, fl_KM, fl_RM, fl_lit, fl_nadd, fl_nmul, fl_ndiv, fl_nsub, fl_msub, fl_nle, fl_nlt, fl_neq, fl_nclamp, fl_nin, fl_ltT, fl_ltF, fl_leT, fl_leF, fl_eqT, fl_eqF, decide_true, decide_false, Bool.true_and, Bool.and_true, Bool.false_and, Bool.and_false, if_true, if_false, Bool.false_eq_true, Option.isSome_some, Option.getD_some, not_true_eq_false, not_false_eq_true, Option.toList_some, Option.toList_none, List.cons_append, List.nil_append, e129, fbP_145_112, fbP_145_127, fbC_145_133, cm, t2, e77, fbP_145_137, o4]
theorem fr_145s {y : fl_H} (sk : fl_sk k0 i0) (hg : fl_g k0 y) (hs : fl_st k0 i0 y) (m : fl_mm y g) (w : fl_wf g) (n80 : tn ≤ 80) (tp : ∀ j, j < tn → tx j < 256 ∧ fl_i y 261 j = Int32.ofNat (tx j)) (ok : ∀ p, p < tn → fl_sok (tx p) = true) {n k : Nat} (hn : n ≤ 24) (hk : k < n) (hkn : k * g 1 + g 1 ≤ tn) (h24 : g 76 + k < 24) (B : Int64) : fl_Rn fl_C 145 94 [some (.ref 259), some (.int (Int32.ofNat n)), some (.long B), none, some (.int (Int32.ofNat k))] [] (fl_wi y 262 (fl_mT tx g (fl_i y 262) k)) = fl_Rn fl_C 145 94 [some (.ref 259), some (.int (Int32.ofNat n)), some (.long B), none, some (.int (Int32.ofNat (k + 1)))] [] (fl_wi y 262 (fl_mT tx g (fl_i y 262) (k + 1))) := by
  have w4 : g 1 ≤ 4 := w.1.2.1
  have mk := fl_mT_mm (tx := tx) (M := fl_i y 262) m k (by omega)
  have m1 := mk 1 (by omega)
  have m76 := mk 76 (by omega)
  have m77 := mk 77 (by omega)
  rw [fl_gT_lt (by omega)] at m1
  rw [fl_gT_76] at m76
  rw [fl_gT_77] at m77
  have G : fl_g k0 (fl_wi y 262 (fl_mT tx g (fl_i y 262) k)) := ⟨by rw [fl_k_wi]; exact hg.1, by rw [fl_r_wi]; exact hg.2⟩
  have li := fr_145i sk G (fun q a b => by rw [fl_i_wi, if_neg (by omega)]; exact hs q a b) n80 (fun j hj => by rw [fl_i_wi, if_neg (by omega)]; exact tp j hj) ok (p := g 1) (k := k) (by rw [fl_i_wi, if_pos rfl]; exact m1) w4 hkn (Int32.ofNat n) B
  have e129 := fr_129h G
  rw [fl_i_wi, if_pos rfl, m1] at e129
  have e130 := fr_130h G
  rw [fl_i_wi, if_pos rfl, m76] at e130
  have st : fl_mT tx g (fl_i y 262) (k + 1) = fl_up (fl_up (fl_up (fl_mT tx g (fl_i y 262) k) (78 + (g 76 + k)) (Int32.ofNat (fl_pt tx (k * g 1) (g 1)))) (102 + (g 76 + k)) (Int32.ofNat (g 77))) 76 (Int32.ofNat (g 76 + k + 1)) := rfl
  rw [st]
  clear st mk m w tp sk hs ok G
  generalize fl_mT tx g (fl_i y 262) k = M at *
  generalize fl_pt tx (k * g 1) (g 1) = pt at *
  have G2 : fl_g k0 (fl_wi y 262 (fl_up M (78 + (g 76 + k)) (Int32.ofNat pt))) := ⟨by rw [fl_k_wi]; exact hg.1, by rw [fl_r_wi]; exact hg.2⟩
  have e130b := fr_130h G2
  rw [fl_i_wi, if_pos rfl, fl_up_ne (by omega), m76] at e130b
  have s1 : fl_Rn fl_C 145 106 [some (.ref 259), some (.int (Int32.ofNat n)), some (.long B), none, some (.int (Int32.ofNat k)), some (.int (Int32.ofNat pt)), some (.int (Int32.ofNat (g 1)))] [] (fl_wi y 262 M) = fl_Rn fl_C 145 165 [some (.ref 259), some (.int (Int32.ofNat n)), some (.long B), none, some (.int (Int32.ofNat k))] [] (fl_wi y 262 (fl_up M (78 + (g 76 + k)) (Int32.ofNat pt))) := by
    clear li e130b G2
    rw [fbC_145_106]
    simp (disch := omega) only [fl_k_wl, fl_r_wl, fl_i_wl, fl_l_wl, fl_1_wl, fl_k_wi, fl_r_wi, fl_l_wi, fl_1_wi, fl_i_wi, fl_k_si, fl_r_si, fl_l_si, fl_k_sl, fl_r_sl, fl_i_sl, fl_up_self, fl_up_ne, fl_si_wi, fl_sl_wl, fl_wi_wi, fl_wl_wl, hg.1, hg.2, fl_KM, fl_RM, fl_lit, fl_nadd, fl_nmul, fl_ndiv, fl_nsub, fl_msub, fl_nle, fl_nlt, fl_neq, fl_nclamp, fl_nin, fl_ltT, fl_ltF, fl_leT, fl_leF, fl_eqT, fl_eqF, decide_true, decide_false, Bool.true_and, Bool.and_true, Bool.false_and, Bool.and_false, if_true, if_false, Bool.false_eq_true, Option.isSome_some, Option.getD_some, not_true_eq_false, not_false_eq_true, Option.toList_some, Option.toList_none, List.cons_append, List.nil_append, e129, fbP_145_112, e130, fbP_145_161]
  have s2 : fl_Rn fl_C 145 165 [some (.ref 259), some (.int (Int32.ofNat n)), some (.long B), none, some (.int (Int32.ofNat k))] [] (fl_wi y 262 (fl_up M (78 + (g 76 + k)) (Int32.ofNat pt))) = fl_Rn fl_C 145 94 [some (.ref 259), some (.int (Int32.ofNat n)), some (.long B), none, some (.int (Int32.ofNat (k + 1)))] [] (fl_wi y 262 (fl_up (fl_up (fl_up M (78 + (g 76 + k)) (Int32.ofNat pt)) (102 + (g 76 + k)) (Int32.ofNat (g 77))) 76 (Int32.ofNat (g 76 + k + 1)))) := by
    clear li e129 e130 s1 G2
    rw [fbC_145_165]
    simp (disch := omega) only [fl_k_wl, fl_r_wl, fl_i_wl, fl_l_wl, fl_1_wl, fl_k_wi, fl_r_wi, fl_l_wi, fl_1_wi, fl_i_wi, fl_k_si, fl_r_si, fl_l_si, fl_k_sl, fl_r_sl, fl_i_sl, fl_up_self, fl_up_ne, fl_si_wi, fl_sl_wl, fl_wi_wi, fl_wl_wl, hg.1, hg.2, fl_KM, fl_RM, fl_lit, fl_nadd, fl_nmul, fl_ndiv, fl_nsub, fl_msub, fl_nle, fl_nlt, fl_neq, fl_nclamp, fl_nin, fl_ltT, fl_ltF, fl_leT, fl_leF, fl_eqT, fl_eqF, decide_true, decide_false, Bool.true_and, Bool.and_true, Bool.false_and, Bool.and_false, if_true, if_false, Bool.false_eq_true, Option.isSome_some, Option.getD_some, not_true_eq_false, not_false_eq_true, Option.toList_some, Option.toList_none, List.cons_append, List.nil_append, e130b, fbP_145_175, fbC_145_176, m77, fbC_145_183, fbC_145_184, m76, fbC_145_195]
  rw [fbC_145_94]
  simp (disch := omega) only [fl_lit, fl_nadd, fl_nmul, fl_ndiv, fl_nsub, fl_msub, fl_nle, fl_nlt, fl_neq, fl_nclamp, fl_nin, fl_ltT, fl_ltF, fl_leT, fl_leF, fl_eqT, fl_eqF, decide_true, decide_false, Bool.true_and, Bool.and_true, Bool.false_and, Bool.and_false, if_true, if_false, Bool.false_eq_true, Option.isSome_some, Option.getD_some, not_true_eq_false, not_false_eq_true, Option.toList_some, Option.toList_none, List.cons_append, List.nil_append, li, s1, s2]
end
