/-! blames: the reference's side; both alike -/
section
variable {k0 : Nat → Nat × Nat} {i0 : Nat → Nat → Int32} {h : fl_H} {g tx : Nat → Nat} {c : Nat × Nat × Nat × Bool} {tn : Nat}
/-- what was seen at the outputs of one tick -/
theorem fr_241j (sk : fl_sk k0 i0) (hg : fl_g k0 h) (hs : fl_st k0 i0 h) (m : fl_mm h g) (w : fl_wf g) (n80 : tn ≤ 80) (tp : ∀ j, j < tn → tx j < 256 ∧ fl_i h 261 j = Int32.ofNat (tx j)) (ok : ∀ p, p < tn → fl_sok (tx p) = true) (F : Int32) (f : Nat) {t : Nat} (ht : t < g 76) (htn : t * g 3 + g 3 ≤ tn) (hv : ∀ k, k < g 0 → fl_i h 266 k = Int32.ofNat (fl_vl g f (fl_ps g) t k)) : fl_Rn fl_C 241 32 [some (.ref 259), some (.int F), some (.int (Int32.ofNat tn)), some (.int (Int32.ofNat t)), some (.int (Int32.ofNat 0))] [] h = if fl_any (fl_blq g tx f t) (g 3) = true then some (some (some (.int (Int32.ofNat 0))), h) else fl_Rn fl_C 241 6 [some (.ref 259), some (.int F), some (.int (Int32.ofNat tn)), some (.int (Int32.ofNat (t + 1)))] [] h := by
  have w3 : g 3 ≤ 4 := w.1.2.2.2.2.2.2.1
  have w0 : g 0 ≤ 12 := w.1.2.2.2.1
  have w7 : g 76 ≤ 24 := w.1.2.2.2.2.2.2.2.1
  have m3 := m 3 (by omega)
  have lp := fl_find (fun j => fl_Rn fl_C 241 32 [some (.ref 259), some (.int F), some (.int (Int32.ofNat tn)), some (.int (Int32.ofNat t)), some (.int (Int32.ofNat j))] [] h) (some (some (some (.int (Int32.ofNat 0))), h)) (fl_blq g tx f t) (g 3) (fun j hj => by
    have lk : g (72 + j) < g 0 := w.2.2.2.2.2.1 j hj
    have m72 := m (72 + j) (by omega)
    have tj := tp (t * g 3 + j) (by omega)
    have e77 := fr_77u sk hg hs tj.1
    rw [ok (t * g 3 + j) (by omega)] at e77
    have oi : fl_oi true (fl_sval (tx (t * g 3 + j))) = Int32.ofNat (fl_sval (tx (t * g 3 + j))) := rfl
    rw [oi] at e77
    have t2 := tj.2
    have sv := fl_sval_le (tx (t * g 3 + j))
    have vv := fl_vl_le (f := f) w (fl_okp_g w) ht (g (72 + j))
    have vv : fl_vl g f (fl_ps g) t (g (72 + j)) ≤ 2 := vv
    have v1 := hv _ lk
    have cm : g 3 * t + j = t * g 3 + j := by rw [Nat.mul_comm]
    have bq : fl_blq g tx f t j = (decide (fl_sval (tx (t * g 3 + j)) < 2) && (decide (fl_vl g f (fl_ps g) t (g (72 + j)) < 2) && decide (fl_sval (tx (t * g 3 + j)) ≠ fl_vl g f (fl_ps g) t (g (72 + j))))) := rfl
    try dsimp only
    rw [bq]
    have st : fl_Rn fl_C 241 32 [some (.ref 259), some (.int F), some (.int (Int32.ofNat tn)), some (.int (Int32.ofNat t)), some (.int (Int32.ofNat j))] [] h = fl_Rn fl_C 241 81 [some (.ref 259), some (.int F), some (.int (Int32.ofNat tn)), some (.int (Int32.ofNat t)), some (.int (Int32.ofNat j)), some (.int (Int32.ofNat (fl_sval (tx (t * g 3 + j)))))] [.int (Int32.ofNat (fl_vl g f (fl_ps g) t (g (72 + j))))] h := by
      clear w m sk hs tp ok hv bq tj
      generalize fl_vl g f (fl_ps g) t (g (72 + j)) = v at *
      generalize fl_sval (tx (t * g 3 + j)) = sx at *
      generalize tx (t * g 3 + j) = tv at *
      generalize g (72 + j) = ln at *
      rw [fbC_241_32]
      simp (disch := omega) only [hg.1, hg.2, fl_KM, fl_RM, fl_lit, fl_nadd, fl_nmul, fl_ndiv, fl_nsub, fl_msub, fl_nle, fl_nlt, fl_neq, fl_nclamp, fl_nin, fl_ltT, fl_ltF, fl_leT, fl_leF, fl_eqT, fl_eqF, decide_true, decide_false, Bool.true_and, Bool.and_true, Bool.false_and, Bool.and_false, if_true, if_false, Bool.false_eq_true, Option.isSome_some, Option.getD_some, not_true_eq_false, not_false_eq_true, Option.toList_some, Option.toList_none, List.cons_append, List.nil_append, m3, fbC_241_40, fbC_241_55, cm, fbC_241_60, t2, e77, fbP_241_64, fbC_241_79, m72, fbC_241_80, v1]
    rw [st]
    clear w m sk hs tp ok hv bq tj st e77 oi v1 t2 m72 cm
    generalize fl_vl g f (fl_ps g) t (g (72 + j)) = v at *
    generalize fl_sval (tx (t * g 3 + j)) = sx at *
    rw [fbC_241_81]
    by_cases a1 : 2 ≤ sx
    · rw [decide_eq_false (show ¬ sx < 2 by omega), Bool.false_and]
      simp (disch := omega) only [fl_lit, fl_nadd, fl_nmul, fl_ndiv, fl_nsub, fl_msub, fl_nle, fl_nlt, fl_neq, fl_nclamp, fl_nin, fl_ltT, fl_ltF, fl_leT, fl_leF, fl_eqT, fl_eqF, decide_true, decide_false, Bool.true_and, Bool.and_true, Bool.false_and, Bool.and_false, if_true, if_false, Bool.false_eq_true, Option.isSome_some, Option.getD_some, not_true_eq_false, not_false_eq_true, Option.toList_some, Option.toList_none, List.cons_append, List.nil_append, fbC_241_104]
    · by_cases a2 : 2 ≤ v
      · rw [decide_eq_false (show ¬ v < 2 by omega), Bool.false_and, Bool.and_false]
        simp (disch := omega) only [fl_lit, fl_nadd, fl_nmul, fl_ndiv, fl_nsub, fl_msub, fl_nle, fl_nlt, fl_neq, fl_nclamp, fl_nin, fl_ltT, fl_ltF, fl_leT, fl_leF, fl_eqT, fl_eqF, decide_true, decide_false, Bool.true_and, Bool.and_true, Bool.false_and, Bool.and_false, if_true, if_false, Bool.false_eq_true, Option.isSome_some, Option.getD_some, not_true_eq_false, not_false_eq_true, Option.toList_some, Option.toList_none, List.cons_append, List.nil_append, fbC_241_104]
      · by_cases a3 : sx = v
        · rw [decide_eq_false (show ¬ sx ≠ v from fun z => z a3), Bool.and_false, Bool.and_false]
          simp (disch := omega) only [fl_lit, fl_nadd, fl_nmul, fl_ndiv, fl_nsub, fl_msub, fl_nle, fl_nlt, fl_neq, fl_nclamp, fl_nin, fl_ltT, fl_ltF, fl_leT, fl_leF, fl_eqT, fl_eqF, decide_true, decide_false, Bool.true_and, Bool.and_true, Bool.false_and, Bool.and_false, if_true, if_false, Bool.false_eq_true, Option.isSome_some, Option.getD_some, not_true_eq_false, not_false_eq_true, Option.toList_some, Option.toList_none, List.cons_append, List.nil_append, fbC_241_104]
        · rw [decide_eq_true (show sx < 2 by omega), decide_eq_true (show v < 2 by omega), decide_eq_true (show sx ≠ v from a3)]
          simp (disch := omega) only [fl_lit, fl_nadd, fl_nmul, fl_ndiv, fl_nsub, fl_msub, fl_nle, fl_nlt, fl_neq, fl_nclamp, fl_nin, fl_ltT, fl_ltF, fl_leT, fl_leF, fl_eqT, fl_eqF, decide_true, decide_false, Bool.true_and, Bool.and_true, Bool.false_and, Bool.and_false, if_true, if_false, Bool.false_eq_true, Option.isSome_some, Option.getD_some, not_true_eq_false, not_false_eq_true, Option.toList_some, Option.toList_none, List.cons_append, List.nil_append])
  try dsimp only at lp
  rw [lp]
  have fin : fl_Rn fl_C 241 32 [some (.ref 259), some (.int F), some (.int (Int32.ofNat tn)), some (.int (Int32.ofNat t)), some (.int (Int32.ofNat (g 3)))] [] h = fl_Rn fl_C 241 6 [some (.ref 259), some (.int F), some (.int (Int32.ofNat tn)), some (.int (Int32.ofNat (t + 1)))] [] h := by
    clear w m sk hs tp ok hv lp
    rw [fbC_241_32]
    simp (disch := omega) only [hg.1, hg.2, fl_KM, fl_RM, fl_lit, fl_nadd, fl_nmul, fl_ndiv, fl_nsub, fl_msub, fl_nle, fl_nlt, fl_neq, fl_nclamp, fl_nin, fl_ltT, fl_ltF, fl_leT, fl_leF, fl_eqT, fl_eqF, decide_true, decide_false, Bool.true_and, Bool.and_true, Bool.false_and, Bool.and_false, if_true, if_false, Bool.false_eq_true, Option.isSome_some, Option.getD_some, not_true_eq_false, not_false_eq_true, Option.toList_some, Option.toList_none, List.cons_append, List.nil_append, m3, fbC_241_40]
  rw [fin]
theorem fr_241 (sk : fl_sk k0 i0) (hg : fl_g k0 h) (hs : fl_st k0 i0 h) (m : fl_mm h g) (w : fl_wf g) (n80 : tn ≤ 80) (tp : ∀ j, j < tn → tx j < 256 ∧ fl_i h 261 j = Int32.ofNat (tx j)) (ok : ∀ p, p < tn → fl_sok (tx p) = true) (ls : fl_ls h (g 76) (fl_ps g)) {n : Nat} (hn : n * g 3 = tn) (hn7 : n ≤ g 76) (f : Nat) : fl_to (fl_cl fl_C 241 [.ref 259, .int (fl_fi f), .int (Int32.ofNat tn)] h) (fun v y => v = some (.int (if fl_bla g tx f n = true then Int32.ofNat 0 else Int32.ofNat 1)) ∧ fl_fx (fun b => b = 266 ∨ b = 267) h y) := by
  have w3 : g 3 ≤ 4 := w.1.2.2.2.2.2.2.1
  have w31 : 1 ≤ g 3 := w.1.2.2.2.2.2.1
  have w0 : g 0 ≤ 12 := w.1.2.2.2.1
  have w7 : g 76 ≤ 24 := w.1.2.2.2.2.2.2.2.1
  have okp : fl_okp g (fl_ps g) (g 76) := fl_okp_g w
  have e132 := fr_132 hg m w
  have st : fl_cl fl_C 241 [.ref 259, .int (fl_fi f), .int (Int32.ofNat tn)] h = fl_Rn fl_C 241 6 [some (.ref 259), some (.int (fl_fi f)), some (.int (Int32.ofNat tn)), some (.int (Int32.ofNat 0))] [] (fl_wi h 267 (fl_ar (g 0) (fun k => g (40 + k)) (fl_i h 267))) := by
    clear w m sk hs tp ok ls okp
    rw [fbE_241]
    simp (disch := omega) only [hg.1, fl_KM, fl_RM, fl_lit, fl_nadd, fl_nmul, fl_ndiv, fl_nsub, fl_msub, fl_nle, fl_nlt, fl_neq, fl_nclamp, fl_nin, fl_ltT, fl_ltF, fl_leT, fl_leF, fl_eqT, fl_eqF, decide_true, decide_false, Bool.true_and, Bool.and_true, Bool.false_and, Bool.and_false, if_true, if_false, Bool.false_eq_true, Option.isSome_some, Option.getD_some, not_true_eq_false, not_false_eq_true, Option.toList_some, Option.toList_none, List.cons_append, List.nil_append, e132, fbP_241_4]
  rw [st]
  clear st e132
  refine fl_loopT (F := fun t x => fl_Rn fl_C 241 6 [some (.ref 259), some (.int (fl_fi f)), some (.int (Int32.ofNat tn)), some (.int (Int32.ofNat t))] [] x) (fun t x => fl_fx (fun b => b = 266 ∨ b = 267) h x ∧ (∀ k, k < g 0 → fl_i x 267 k = Int32.ofNat (fl_hd g f (fl_ps g) t k)) ∧ fl_bla g tx f t = false) n ?_ ?_ 0 _ (Nat.zero_le _) ⟨fl_fx_wi fl_fx_rfl (Or.inr rfl), fun k hk => by rw [fl_i_wi, if_pos rfl, fl_ar_lt hk]; rfl, rfl⟩
  · rintro x ⟨fx, -, bf⟩
    have gx := fl_g_fx hg fx
    have m3 := fl_mm_fx m fx (by omega) 3 (by omega)
    have cm : g 3 * n = tn := by rw [Nat.mul_comm]; exact hn
    have fin : fl_Rn fl_C 241 6 [some (.ref 259), some (.int (fl_fi f)), some (.int (Int32.ofNat tn)), some (.int (Int32.ofNat n))] [] x = some (some (some (.int (Int32.ofNat 1))), x) := by
      clear w m sk hs tp ok ls okp fx
      rw [fbC_241_6]
      simp (disch := omega) only [gx.1, gx.2, fl_KM, fl_RM, fl_lit, fl_nadd, fl_nmul, fl_ndiv, fl_nsub, fl_msub, fl_nle, fl_nlt, fl_neq, fl_nclamp, fl_nin, fl_ltT, fl_ltF, fl_leT, fl_leF, fl_eqT, fl_eqF, decide_true, decide_false, Bool.true_and, Bool.and_true, Bool.false_and, Bool.and_false, if_true, if_false, Bool.false_eq_true, Option.isSome_some, Option.getD_some, not_true_eq_false, not_false_eq_true, Option.toList_some, Option.toList_none, List.cons_append, List.nil_append, m3, fbC_241_12, cm]
    refine ⟨_, _, fin, ?_, fx⟩
    rw [bf]; rfl
  · rintro t x ht ⟨fx, hx, bf⟩ hy
    have gx := fl_g_fx hg fx
    have mx := fl_mm_fx m fx (by omega)
    have m3 := mx 3 (by omega)
    have lx := fl_ls_fx ls fx (by omega) (by omega)
    have htn : t * g 3 + g 3 ≤ tn := by
      have := Nat.mul_le_mul_right (g 3) (show t + 1 ≤ n from ht)
      rw [Nat.add_mul, Nat.one_mul] at this
      omega
    have cm : g 3 * t = t * g 3 := Nat.mul_comm _ _
    have p := okp t (by omega)
    have e137 := fr_137 gx mx w p.1 p.2 f (hd := fl_hd g f (fl_ps g) t) (fun k hk => fl_hd_le w okp t (by omega) k hk) (fun k hk _ => hx k hk)
    have l8 := lx.2.2 t (by omega)
    have tf := fl_tk_fx (h := x) (g := g) (f := f) (pt := fl_ps g t) (hd := fl_hd g f (fl_ps g) t)
    have fy := fl_fx_tr fx tf
    have gy := fl_g_fx hg fy
    have my := fl_mm_fx m fy (by omega)
    have sy : fl_st k0 i0 (fl_tk x g f (fl_ps g t) (fl_hd g f (fl_ps g) t)) := fun q h1 h2 => (fy.2.2.2.2 q (by omega)).trans (hs q h1 h2)
    have jj := fr_241j sk gy sy my w n80 (fun j hj => by rw [fy.2.2.2.2 261 (by omega)]; exact tp j hj) ok (fl_fi f) f (t := t) (by omega) htn (fun k hk => fl_tk_val hk)
    have hy' : ∀ k, k < g 0 → fl_i (fl_tk x g f (fl_ps g t) (fl_hd g f (fl_ps g) t)) 267 k = Int32.ofNat (fl_hd g f (fl_ps g) (t + 1) k) := fun k hk => fl_tk_hold hk
    have st : fl_Rn fl_C 241 6 [some (.ref 259), some (.int (fl_fi f)), some (.int (Int32.ofNat tn)), some (.int (Int32.ofNat t))] [] x = fl_Rn fl_C 241 32 [some (.ref 259), some (.int (fl_fi f)), some (.int (Int32.ofNat tn)), some (.int (Int32.ofNat t)), some (.int (Int32.ofNat 0))] [] (fl_tk x g f (fl_ps g t) (fl_hd g f (fl_ps g) t)) := by
      clear w m sk hs tp ok ls okp fx mx lx p tf fy gy my sy jj hy' hy hx
      generalize fl_tk x g f (fl_ps g t) (fl_hd g f (fl_ps g) t) = Y at *
      generalize fl_ps g t = pt at *
      rw [fbC_241_6]
      simp (disch := omega) only [gx.1, gx.2, fl_KM, fl_RM, fl_lit, fl_nadd, fl_nmul, fl_ndiv, fl_nsub, fl_msub, fl_nle, fl_nlt, fl_neq, fl_nclamp, fl_nin, fl_ltT, fl_ltF, fl_leT, fl_leF, fl_eqT, fl_eqF, decide_true, decide_false, Bool.true_and, Bool.and_true, Bool.false_and, Bool.and_false, if_true, if_false, Bool.false_eq_true, Option.isSome_some, Option.getD_some, not_true_eq_false, not_false_eq_true, Option.toList_some, Option.toList_none, List.cons_append, List.nil_append, m3, fbC_241_12, cm, l8, fbC_241_25, e137, fbP_241_29]
    rw [st, jj]
    have bs : fl_bla g tx f (t + 1) = (fl_bla g tx f t || fl_any (fl_blq g tx f t) (g 3)) := rfl
    cases z : fl_any (fl_blq g tx f t) (g 3) with
    | true =>
      rw [if_pos rfl]
      refine ⟨_, _, rfl, ?_, fy⟩
      have : fl_bla g tx f n = true := fl_any_mono (show t + 1 ≤ n from ht) (by rw [z, Bool.or_true] at bs; exact bs)
      rw [this]; rfl
    | false =>
      rw [if_neg (by decide)]
      exact hy _ ⟨fy, hy', by rw [bs, bf, z]; rfl⟩
/-- what blames answers -/
def fl_blr (g tx : Nat → Nat) (tn : Nat) : Int32 := if fl_any (fl_bad tx (g 76 * g 3)) tn = true then -Int32.ofNat 1 - Int32.ofNat (fl_frst (fl_bad tx (g 76 * g 3)) tn) else if tn % g 3 = 0 then Int32.ofNat (fl_cnt (fl_hb (fl_bls g tx (tn / g 3))) 64) else -Int32.ofNat 1 - Int32.ofNat tn
abbrev fl_blK (g tx : Nat → Nat) (tn : Nat) : Prop := fl_any (fl_bad tx (g 76 * g 3)) tn = false ∧ tn % g 3 = 0
theorem fl_blK_n (w : fl_wf g) (n80 : tn ≤ 80) (K : fl_blK g tx tn) : tn / g 3 * g 3 = tn ∧ tn / g 3 ≤ g 76 ∧ ∀ p, p < tn → fl_sok (tx p) = true := by
  have w31 : 1 ≤ g 3 := w.1.2.2.2.2.2.1
  have dv : tn / g 3 * g 3 = tn := by have := fl_msub tn (g 3); have := fl_dle tn (g 3); have := K.2; omega
  refine ⟨dv, ?_, fun p hp => ?_⟩
  · by_cases z : tn = 0
    · rw [z, Nat.zero_div]; exact Nat.zero_le _
    · have := fl_any_none K.1 (show tn - 1 < tn by omega)
      unfold fl_bad at this
      rw [Bool.or_eq_false_iff] at this
      have l : tn ≤ g 76 * g 3 := by have := of_decide_eq_false this.1; omega
      exact Nat.div_le_of_le_mul (by rw [Nat.mul_comm]; exact l)
  · have := fl_any_none K.1 hp
    unfold fl_bad at this
    cases e : fl_sok (tx p) with
    | true => rfl
    | false => rw [e] at this; simp at this
theorem fr_242a (sk : fl_sk k0 i0) (hg : fl_g k0 h) (hs : fl_st k0 i0 h) (n80 : tn ≤ 80) {M : Nat} (hM : M < 1000) (e6 : fl_i h 259 6 = Int32.ofNat tn) (tp : ∀ j, j < tn → tx j < 256 ∧ fl_i h 261 j = Int32.ofNat (tx j)) : fl_Rn fl_C 242 23 [some (.ref 259), some (.int (Int32.ofNat M)), some (.int (Int32.ofNat 0))] [] h = if fl_any (fl_bad tx M) tn = true then some (some (some (.int (-Int32.ofNat 1 - Int32.ofNat (fl_frst (fl_bad tx M) tn)))), h) else fl_Rn fl_C 242 23 [some (.ref 259), some (.int (Int32.ofNat M)), some (.int (Int32.ofNat tn))] [] h := by
  refine fl_findN (fun k => fl_Rn fl_C 242 23 [some (.ref 259), some (.int (Int32.ofNat M)), some (.int (Int32.ofNat k))] [] h) (fun k => some (some (some (.int (-Int32.ofNat 1 - Int32.ofNat k))), h)) (fl_bad tx M) tn (fun k hk => ?_)
  have t := tp k hk
  have e77 := fr_77u sk hg hs t.1
  have t2 := t.2
  clear tp t sk hs
  try dsimp only
  unfold fl_bad
  rw [fbC_242_23]
  by_cases l : M ≤ k
  · rw [decide_eq_true l, Bool.true_or]
    simp (disch := omega) only [hg.1, hg.2, fl_KM, fl_RM, fl_lit, fl_nadd, fl_nmul, fl_ndiv, fl_nsub, fl_msub, fl_nle, fl_nlt, fl_neq, fl_nclamp, fl_nin, fl_ltT, fl_ltF, fl_leT, fl_leF, fl_eqT, fl_eqF, decide_true, decide_false, Bool.true_and, Bool.and_true, Bool.false_and, Bool.and_false, if_true, if_false, Bool.false_eq_true, Option.isSome_some, Option.getD_some, not_true_eq_false, not_false_eq_true, Option.toList_some, Option.toList_none, List.cons_append, List.nil_append, e6, fbC_242_50]
  · rw [decide_eq_false l, Bool.false_or]
    cases c : fl_sok (tx k) with
    | true =>
      rw [c] at e77
      have v2 := fl_sval_le (tx k)
      have oi : (Int32.ofNat 0 ≤ fl_oi true (fl_sval (tx k))) = True := by rw [fl_oi_le (by omega)]; exact eq_true rfl
      simp (disch := omega) only [hg.1, hg.2, fl_KM, fl_RM, fl_lit, fl_nadd, fl_nmul, fl_ndiv, fl_nsub, fl_msub, fl_nle, fl_nlt, fl_neq, fl_nclamp, fl_nin, fl_ltT, fl_ltF, fl_leT, fl_leF, fl_eqT, fl_eqF, decide_true, decide_false, Bool.true_and, Bool.and_true, Bool.false_and, Bool.and_false, if_true, if_false, Bool.false_eq_true, Option.isSome_some, Option.getD_some, not_true_eq_false, not_false_eq_true, Option.toList_some, Option.toList_none, List.cons_append, List.nil_append, e6, t2, e77, fbP_242_47, oi, Bool.not_true]
    | false =>
      rw [c] at e77
      have oi : (Int32.ofNat 0 ≤ fl_oi false (fl_sval (tx k))) = False := eq_false (by show ¬ (Int32.ofNat 0 ≤ -Int32.ofNat 1); decide)
      simp (disch := omega) only [hg.1, hg.2, fl_KM, fl_RM, fl_lit, fl_nadd, fl_nmul, fl_ndiv, fl_nsub, fl_msub, fl_nle, fl_nlt, fl_neq, fl_nclamp, fl_nin, fl_ltT, fl_ltF, fl_leT, fl_leF, fl_eqT, fl_eqF, decide_true, decide_false, Bool.true_and, Bool.and_true, Bool.false_and, Bool.and_false, if_true, if_false, Bool.false_eq_true, Option.isSome_some, Option.getD_some, not_true_eq_false, not_false_eq_true, Option.toList_some, Option.toList_none, List.cons_append, List.nil_append, e6, t2, e77, fbP_242_47, oi, Bool.not_false, fbC_242_50]
end
section
variable {k0 : Nat → Nat × Nat} {i0 : Nat → Nat → Int32} {h : fl_H} {g tx : Nat → Nat} {c : Nat × Nat × Nat × Bool} {tn : Nat}
abbrev fl_S4 (q j : Nat) : Prop := (266 ≤ q ∧ q ≤ 282) ∨ (q = 259 ∧ (j = 0 ∨ j = 1 ∨ j = 4 ∨ j = 5 ∨ j = 6 ∨ j = 12 ∨ j = 16 ∨ j = 29 ∨ j = 32)) ∨ (q = 263 ∧ j = 0) ∨ q = 260
theorem fl_S4_S0 {q j : Nat} (z : fl_S4 q j) : fl_S0 q j := by
  rcases z with z | z | z | z
  · exact fl_S0_a (by omega)
  · exact fl_S0_b (by omega)
  · exact fl_S0_f z
  · exact fl_S0_j z
/-- the suspects, and what is told, of a text that is right -/
theorem fr_242b (sk : fl_sk k0 i0) (hg : fl_g k0 h) (hs : fl_st k0 i0 h) (m : fl_mm h g) (w : fl_wf g) (n80 : tn ≤ 80) (e6 : fl_i h 259 6 = Int32.ofNat tn) (tp : ∀ j, j < tn → tx j < 256 ∧ fl_i h 261 j = Int32.ofNat (tx j)) (ok : ∀ p, p < tn → fl_sok (tx p) = true) {n : Nat} (hn : n * g 3 = tn) (hn7 : n ≤ g 76) : ∃ y, fl_df fl_S4 h y ∧ fl_cl fl_C 131 [.ref 259] h = some (some none, fl_wi (fl_wi h 259 (fl_up (fl_i h 259) 16 (Int32.ofNat (g 76)))) 268 (fl_ar (g 76) (fun t => g (78 + t)) (fl_i h 268))) ∧ fl_Rn fl_C 242 90 [some (.ref 259), none, some (.long 0), none, some (.int (Int32.ofNat 0))] [] (fl_wi (fl_wi h 259 (fl_up (fl_i h 259) 16 (Int32.ofNat (g 76)))) 268 (fl_ar (g 76) (fun t => g (78 + t)) (fl_i h 268))) = some (some (some (.int (Int32.ofNat (fl_cnt (fl_hb (fl_bls g tx n)) 64)))), y) ∧ fl_i y 259 4 = fl_i h 259 4 ∧ fl_l y 263 0 = fl_bls g tx n ∧ fl_i y 259 1 = Int32.ofNat 2 ∧ fl_l y 260 0 = fl_bls g tx n ∧ fl_l y 260 1 = (if fl_bla g tx 64 n = true then 0 else 1) := by
  have w0 : g 0 ≤ 12 := w.1.2.2.2.1
  have w2 : g 2 ≤ 20 := w.1.2.2.2.2.1
  have w7 : g 76 ≤ 24 := w.1.2.2.2.2.2.2.2.1
  have e131 := fr_131 hg m w
  have dH : fl_df fl_S4 h (fl_wi (fl_wi h 259 (fl_up (fl_i h 259) 16 (Int32.ofNat (g 76)))) 268 (fl_ar (g 76) (fun t => g (78 + t)) (fl_i h 268))) := fl_df_wi (fl_df_wiu fl_df_rfl (by omega)) (fun j z => absurd (Or.inl (by omega)) z)
  have lsH : fl_ls (fl_wi (fl_wi h 259 (fl_up (fl_i h 259) 16 (Int32.ofNat (g 76)))) 268 (fl_ar (g 76) (fun t => g (78 + t)) (fl_i h 268))) (g 76) (fl_ps g) := ⟨w7, by rw [fl_i_wi, if_neg (by omega), fl_i_wi, if_pos rfl, fl_up_self], fun t ht => by rw [fl_i_wi, if_pos rfl, fl_ar_lt ht]; rfl⟩
  have o6 : ∀ j, j ≠ 16 → fl_i (fl_wi (fl_wi h 259 (fl_up (fl_i h 259) 16 (Int32.ofNat (g 76)))) 268 (fl_ar (g 76) (fun t => g (78 + t)) (fl_i h 268))) 259 j = fl_i h 259 j := fun j hj => by rw [fl_i_wi, if_neg (by omega), fl_i_wi, if_pos rfl, fl_up_ne hj]
  generalize fl_wi (fl_wi h 259 (fl_up (fl_i h 259) 16 (Int32.ofNat (g 76)))) 268 (fl_ar (g 76) (fun t => g (78 + t)) (fl_i h 268)) = H at *
  have gH := fl_df_g hg dH
  have mH : fl_mm H g := fun j hj => by rw [(dH.2.2.2 262 j (by omega)).1]; exact m j hj
  have sH : fl_st k0 i0 H := fl_df_st dH hs (fun q j z => by omega)
  have tH : ∀ j, j < tn → tx j < 256 ∧ fl_i H 261 j = Int32.ofNat (tx j) := fun j hj => by rw [(dH.2.2.2 261 j (by omega)).1]; exact tp j hj
  have H6 : fl_i H 259 6 = Int32.ofNat tn := (o6 6 (by omega)).trans e6
  suffices fl_to (fl_Rn fl_C 242 90 [some (.ref 259), none, some (.long 0), none, some (.int (Int32.ofNat 0))] [] H) (fun v y => v = some (.int (Int32.ofNat (fl_cnt (fl_hb (fl_bls g tx n)) 64))) ∧ fl_df fl_S4 H y ∧ fl_i y 259 4 = fl_i H 259 4 ∧ fl_l y 263 0 = fl_bls g tx n ∧ fl_i y 259 1 = Int32.ofNat 2 ∧ fl_l y 260 0 = fl_bls g tx n ∧ fl_l y 260 1 = (if fl_bla g tx 64 n = true then 0 else 1)) by
    obtain ⟨v, y, e, rfl, dy, r4, r⟩ := this
    exact ⟨y, fl_df_tr dH dy, e131, e, r4.trans (o6 4 (by omega)), r⟩
  refine fl_loopT (F := fun f x => fl_Rn fl_C 242 90 [some (.ref 259), none, some (.long (fl_bs (fun f => !fl_bla g tx f n) f)), none, some (.int (Int32.ofNat f))] [] x) (fun f x => fl_fx (fun b => b = 266 ∨ b = 267) H x) (2 * (g 0 + g 2)) ?_ ?_ 0 H (Nat.zero_le _) fl_fx_rfl
  · intro x fx
    have gx := fl_g_fx gH fx
    have mx := fl_mm_fx mH fx (by omega)
    have e88 := fr_88 gx mx
    have x259 : fl_i x 259 = fl_i H 259 := fx.2.2.2.2 259 (by omega)
    -- the suspects; what is told
    have dx1 : fl_df fl_S4 H (fl_a0 (fl_wl x 263 (fl_up (fl_l x 263) 0 (fl_bls g tx n)))) := fl_a0_df (fl_df_wlu (fl_df_fx fx (fun q j z => by omega)) (by omega)) (by omega)
    have G0 : fl_g k0 (fl_wl x 263 (fl_up (fl_l x 263) 0 (fl_bls g tx n))) := ⟨by rw [fl_k_wl]; exact gx.1, by rw [fl_r_wl]; exact gx.2⟩
    have t1 := fr_ra1 G0 (fl_bls g tx n)
    have dr := fl_ra1_df (h := fl_wl x 263 (fl_up (fl_l x 263) 0 (fl_bls g tx n))) (A := fl_bls g tx n)
    have vr := fl_ra1_v (h := fl_wl x 263 (fl_up (fl_l x 263) 0 (fl_bls g tx n))) (A := fl_bls g tx n)
    have Ga := fl_a0_g G0
    have dz : fl_df fl_S4 H (fl_ra1 (fl_wl x 263 (fl_up (fl_l x 263) 0 (fl_bls g tx n))) (fl_bls g tx n)) := fl_df_tr (fl_df_wlu (fl_df_fx fx (fun q j z => by omega)) (by omega)) (fl_df_mo dr (fun q j z => by omega))
    have z259 : ∀ j, j ≠ 1 → fl_i (fl_ra1 (fl_wl x 263 (fl_up (fl_l x 263) 0 (fl_bls g tx n))) (fl_bls g tx n)) 259 j = fl_i H 259 j := fun j hj => by rw [(dr.2.2.2 259 j (by omega)).1, fl_i_wl, x259]
    have z268 : fl_i (fl_ra1 (fl_wl x 263 (fl_up (fl_l x 263) 0 (fl_bls g tx n))) (fl_bls g tx n)) 268 = fl_i H 268 := (fl_df_i dr (fun j => by omega)).trans (by rw [fl_i_wl]; exact fx.2.2.2.2 268 (by omega))
    have z263 : fl_l (fl_ra1 (fl_wl x 263 (fl_up (fl_l x 263) 0 (fl_bls g tx n))) (fl_bls g tx n)) 263 0 = fl_bls g tx n := by rw [(dr.2.2.2 263 0 (by omega)).2, fl_l_wl, if_pos rfl, fl_up_self]
    have st : fl_Rn fl_C 242 90 [some (.ref 259), none, some (.long (fl_bls g tx n)), none, some (.int (Int32.ofNat (2 * (g 0 + g 2))))] [] x = fl_ca fl_C 242 146 [some (.ref 259), none, some (.long (fl_bls g tx n))] [] [] (some (some none, fl_ra1 (fl_wl x 263 (fl_up (fl_l x 263) 0 (fl_bls g tx n))) (fl_bls g tx n))) := by
      clear w m mx mH sk hs sH tp tH ok dx1 dr vr dz z259 z268 z263 lsH fx dH o6
      generalize fl_ra1 (fl_wl x 263 (fl_up (fl_l x 263) 0 (fl_bls g tx n))) (fl_bls g tx n) = Z at *
      generalize fl_bls g tx n = LS at *
      rw [fbC_242_90]
      simp (disch := omega) only [fl_si_wi, fl_sl_wl, fl_a0_w, gx.1, gx.2, G0.1, Ga.1, fl_KM, fl_RM, fl_lit, fl_nadd, fl_nmul, fl_ndiv, fl_nsub, fl_msub, fl_nle, fl_nlt, fl_neq, fl_nclamp, fl_nin, fl_ltT, fl_ltF, fl_leT, fl_leF, fl_eqT, fl_eqF, decide_true, decide_false, Bool.true_and, Bool.and_true, Bool.false_and, Bool.and_false, if_true, if_false, Bool.false_eq_true, Option.isSome_some, Option.getD_some, not_true_eq_false, not_false_eq_true, Option.toList_some, Option.toList_none, List.cons_append, List.nil_append, e88, fbP_242_96, fbC_242_136, fbC_242_141, t1]
    rw [show fl_bs (fun f => !fl_bla g tx f n) (2 * (g 0 + g 2)) = fl_bls g tx n from rfl, st]
    clear st t1 dx1 Ga G0
    generalize fl_ra1 (fl_wl x 263 (fl_up (fl_l x 263) 0 (fl_bls g tx n))) (fl_bls g tx n) = Z at *
    have gZ := fl_df_g gH dz
    have mZ : fl_mm Z g := fun j hj => by rw [(dz.2.2.2 262 j (by omega)).1]; exact mH j hj
    have sZ : fl_st k0 i0 Z := fl_df_st dz sH (fun q j z => by omega)
    have tZ : ∀ j, j < tn → tx j < 256 ∧ fl_i Z 261 j = Int32.ofNat (tx j) := fun j hj => by rw [(dz.2.2.2 261 j (by omega)).1]; exact tH j hj
    have Z6 : fl_i Z 259 6 = Int32.ofNat tn := (z259 6 (by omega)).trans H6
    obtain ⟨v, y, e241, rfl, fy⟩ := fr_241 sk gZ sZ mZ w n80 tZ ok ⟨w7, (z259 16 (by omega)).trans lsH.2.1, fun t ht => by rw [z268]; exact lsH.2.2 t ht⟩ hn hn7 64
    have gy := fl_g_fx gZ fy
    have y259 : fl_i y 259 = fl_i Z 259 := fy.2.2.2.2 259 (by omega)
    have yl : fl_l y = fl_l Z := fy.2.2.2.1
    have e79 := fr_79 (h := y) (if fl_bla g tx 64 n = true then Int32.ofNat 0 else Int32.ofNat 1)
    have t2 := fr_143 gy (n := 1) (by omega) (by rw [y259]; exact vr.1) (Int32.toInt64 (if (if fl_bla g tx 64 n = true then Int32.ofNat 0 else Int32.ofNat 1) = Int32.ofNat 0 then Int32.ofNat 0 else Int32.ofNat 1))
    have bt := fun H2 => fr_144 (h := H2) (fl_bls g tx n)
    refine ⟨_, fl_ae y 1 (Int32.toInt64 (if (if fl_bla g tx 64 n = true then Int32.ofNat 0 else Int32.ofNat 1) = Int32.ofNat 0 then Int32.ofNat 0 else Int32.ofNat 1)), ?_, rfl, ?_, ?_, ?_, ?_, ?_, ?_⟩
    · have em : fl_fi 64 = -Int32.ofNat 1 := rfl
      rw [em] at e241
      have ea : ∀ v, fl_wi (fl_wl y 260 (fl_up (fl_l y 260) 1 v)) 259 (fl_up (fl_i y 259) 1 (Int32.ofNat (1 + 1))) = fl_ae y 1 v := fun v => rfl
      rw [ea] at t2
      clear w m mx mH mZ sk hs sH sZ tp tH tZ ok dr vr dz z259 z268 z263 lsH fx dH o6 fy y259 yl ea em
      have bt' := bt (fl_ae y 1 (Int32.toInt64 (if (if fl_bla g tx 64 n = true then Int32.ofNat 0 else Int32.ofNat 1) = Int32.ofNat 0 then Int32.ofNat 0 else Int32.ofNat 1)))
      clear bt
      generalize fl_ae y 1 (Int32.toInt64 (if (if fl_bla g tx 64 n = true then Int32.ofNat 0 else Int32.ofNat 1) = Int32.ofNat 0 then Int32.ofNat 0 else Int32.ofNat 1)) = Y at *
      generalize (if (if fl_bla g tx 64 n = true then Int32.ofNat 0 else Int32.ofNat 1) = Int32.ofNat 0 then Int32.ofNat 0 else Int32.ofNat 1) = vv at *
      generalize (if fl_bla g tx 64 n = true then Int32.ofNat 0 else Int32.ofNat 1) = v0 at *
      rw [fbP_242_146]
      simp (disch := omega) only [gZ.1, gy.1, fl_KM, fl_RM, fl_lit, fl_nadd, fl_nmul, fl_ndiv, fl_nsub, fl_msub, fl_nle, fl_nlt, fl_neq, fl_nclamp, fl_nin, fl_ltT, fl_ltF, fl_leT, fl_leF, fl_eqT, fl_eqF, decide_true, decide_false, Bool.true_and, Bool.and_true, Bool.false_and, Bool.and_false, if_true, if_false, Bool.false_eq_true, Option.isSome_some, Option.getD_some, not_true_eq_false, not_false_eq_true, Option.toList_some, Option.toList_none, List.cons_append, List.nil_append, Z6, e241, fbP_242_156, e79, fbP_242_159, t2, fbP_242_163, bt', fbP_242_167]
    · exact fl_ae_df (fl_df_tr dz (fl_df_fx fy (fun q j z => by omega))) (by omega) (by omega)
    · unfold fl_ae; rw [fl_i_wi, if_pos rfl, fl_up_ne (by omega), y259]; exact z259 4 (by omega)
    · unfold fl_ae; rw [fl_l_wi, fl_l_wl, if_neg (by omega), yl]; exact z263
    · exact fl_ae_n
    · rw [fl_ae_l, fl_up_ne (by omega), yl]; exact vr.2
    · rw [fl_ae_l, fl_up_self]
      cases fl_bla g tx 64 n <;> rfl
  · intro f x hf fx hy
    have gx := fl_g_fx gH fx
    have mx := fl_mm_fx mH fx (by omega)
    have lx := fl_ls_fx lsH fx (by omega) (by omega)
    have e88 := fr_88 gx mx
    have x6 : fl_i x 259 6 = Int32.ofNat tn := by rw [fx.2.2.2.2 259 (by omega)]; exact H6
    obtain ⟨v, y, e241, rfl, fy⟩ := fr_241 sk gx (fun q h1 h2 => (fx.2.2.2.2 q (by omega)).trans (sH q h1 h2)) mx w n80 (fun j hj => by rw [fx.2.2.2.2 261 (by omega)]; exact tH j hj) ok lx hn hn7 f
    rw [fl_fi_lt (by omega)] at e241
    have bsn : fl_bs (fun f => !fl_bla g tx f n) (f + 1) = fl_bs (fun f => !fl_bla g tx f n) f ||| (if (!fl_bla g tx f n) = true then 1 <<< (Int32.toInt64 (Int32.ofNat f) &&& 63) else 0) := rfl
    have fin : fl_Rn fl_C 242 90 [some (.ref 259), none, some (.long (fl_bs (fun f => !fl_bla g tx f n) f)), none, some (.int (Int32.ofNat f))] [] x = fl_Rn fl_C 242 90 [some (.ref 259), none, some (.long (fl_bs (fun f => !fl_bla g tx f n) (f + 1))), none, some (.int (Int32.ofNat (f + 1)))] [] y := by
      rw [bsn]
      clear w m mx mH sk hs sH tp tH ok lsH lx fx dH o6 fy hy bsn e131
      generalize fl_bs (fun f => !fl_bla g tx f n) f = BB at *
      cases z : fl_bla g tx f n with
      | true =>
        rw [z, if_pos rfl] at e241
        rw [if_neg (by decide), fbC_242_90]
        simp (disch := omega) only [gx.1, gx.2, fl_KM, fl_RM, fl_lit, fl_nadd, fl_nmul, fl_ndiv, fl_nsub, fl_msub, fl_nle, fl_nlt, fl_neq, fl_nclamp, fl_nin, fl_ltT, fl_ltF, fl_leT, fl_leF, fl_eqT, fl_eqF, decide_true, decide_false, Bool.true_and, Bool.and_true, Bool.false_and, Bool.and_false, if_true, if_false, Bool.false_eq_true, Option.isSome_some, Option.getD_some, not_true_eq_false, not_false_eq_true, Option.toList_some, Option.toList_none, List.cons_append, List.nil_append, e88, fbP_242_96, x6, e241, fbP_242_110]
      | false =>
        rw [z, if_neg (by decide)] at e241
        rw [if_pos (by rfl), fbC_242_90]
        simp (disch := omega) only [gx.1, gx.2, fl_KM, fl_RM, fl_lit, fl_nadd, fl_nmul, fl_ndiv, fl_nsub, fl_msub, fl_nle, fl_nlt, fl_neq, fl_nclamp, fl_nin, fl_ltT, fl_ltF, fl_leT, fl_leF, fl_eqT, fl_eqF, decide_true, decide_false, Bool.true_and, Bool.and_true, Bool.false_and, Bool.and_false, if_true, if_false, Bool.false_eq_true, Option.isSome_some, Option.getD_some, not_true_eq_false, not_false_eq_true, Option.toList_some, Option.toList_none, List.cons_append, List.nil_append, e88, fbP_242_96, x6, e241, fbP_242_110]
    rw [fin]
    exact hy y (fl_fx_tr fx fy)
end
