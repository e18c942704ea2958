/-! classes, classOf: the class's answers; the reference's joins -/
def fl_cfo (A : Nat → Int64) : Nat → Nat × Int64
  | 0 => (0, 0)
  | f + 1 => if fl_any (fl_hb (A f)) f = true then fl_cfo A f else ((fl_cfo A f).1 + 1, if fl_cnt (fl_hb (fl_cfo A f).2) 64 < fl_cnt (fl_hb (A f)) 64 then A f else (fl_cfo A f).2)
theorem fl_cfo_le {A : Nat → Int64} : ∀ f, (fl_cfo A f).1 ≤ f
  | 0 => Nat.le_refl 0
  | f + 1 => by
    have := fl_cfo_le (A := A) f
    rw [fl_cfo]
    split
    · omega
    · show _ + 1 ≤ _; omega
theorem fl_low {x : Int64} {f : Nat} (hf : f < 64) : (lg_cmp (x &&& ((1 <<< (Int32.toInt64 (Int32.ofNat f) &&& 63)) - 1)) 0 = Int32.ofNat 0) = (fl_any (fl_hb x) f = false) := by
  rw [fl_cmp0, fl_allf f hf]
  have e : x &&& fl_B (fun c => decide (c < f)) = fl_B (fun c => fl_hb x c && decide (c < f)) := by
    have := fl_B_and (fl_hb x) (fun c => decide (c < f))
    rw [← fl_B_eta x] at this
    exact this
  rw [e, fl_B_eq0]
  apply propext
  constructor
  · intro h
    exact fl_any_ff (fun c hc => by
      have := fl_any_none h (show c < 64 by omega)
      rw [decide_eq_true hc, Bool.and_true] at this
      exact this)
  · intro h
    refine fl_any_ff (fun c _ => ?_)
    by_cases l : c < f
    · rw [fl_any_none h l, Bool.false_and]
    · rw [decide_eq_false l, Bool.and_false]
/-- the reference's cells of classes -/
def fl_rqs (B : Nat → Int32) (F : Nat) (L : List (Nat × Nat)) (lst : Nat → Nat) : Prop := (∀ f, f < F → B f = Int32.ofNat (lst f) ∧ lst f ≤ f ∧ fl_eqv L f (lst f)) ∧ ∀ f c, f < F → c < F → fl_eqv L f c → lst f = lst c
def fl_jq (B : Nat → Int32) (lo hi : Int32) (n : Nat) : Nat → Int32 := fun j => if j < n ∧ B j = hi then lo else B j
theorem fl_rqs_cg {B : Nat → Int32} {F : Nat} {L M : List (Nat × Nat)} {lst : Nat → Nat} (e : ∀ a b, fl_eqv L a b ↔ fl_eqv M a b) (q : fl_rqs B F L lst) : fl_rqs B F M lst := ⟨fun f hf => ⟨(q.1 f hf).1, (q.1 f hf).2.1, (e _ _).mp (q.1 f hf).2.2⟩, fun f c hf hc z => q.2 f c hf hc ((e _ _).mpr z)⟩
theorem fl_eqv_sw {L : List (Nat × Nat)} {a b x y : Nat} : fl_eqv (L ++ [(a, b)]) x y ↔ fl_eqv (L ++ [(b, a)]) x y := by
  rw [fl_eqv_1, fl_eqv_1]
  constructor
  · rintro (h | h | h)
    · exact Or.inl h
    · exact Or.inr (Or.inr h)
    · exact Or.inr (Or.inl h)
  · rintro (h | h | h)
    · exact Or.inl h
    · exact Or.inr (Or.inr h)
    · exact Or.inr (Or.inl h)
theorem fl_rqs_j {B : Nat → Int32} {F : Nat} {L : List (Nat × Nat)} {lst : Nat → Nat} (hF : F ≤ 64) (q : fl_rqs B F L lst) {a b : Nat} (ha : a < F) (hb : b < F) : fl_rqs (fl_jq B (Int32.ofNat (min (lst a) (lst b))) (Int32.ofNat (max (lst a) (lst b))) F) F (L ++ [(a, b)]) (fun f => if lst f = max (lst a) (lst b) then min (lst a) (lst b) else lst f) := by
  have qa := q.1 a ha
  have qb := q.1 b hb
  have ab : fl_eqv (L ++ [(a, b)]) a b := fl_eqv_in (List.mem_append_right L (List.mem_singleton.mpr rfl))
  have lm : fl_eqv (L ++ [(a, b)]) (lst a) (lst b) := fl_eqv_tr (fl_eqv_sy (fl_eqv_mo qa.2.2)) (fl_eqv_tr ab (fl_eqv_mo qb.2.2))
  have hl : fl_eqv (L ++ [(a, b)]) (max (lst a) (lst b)) (min (lst a) (lst b)) := by
    by_cases c : lst a ≤ lst b
    · rw [Nat.max_eq_right c, Nat.min_eq_left c]; exact fl_eqv_sy lm
    · rw [Nat.max_eq_left (by omega), Nat.min_eq_right (by omega)]; exact lm
  refine ⟨fun f hf => ?_, fun f c hf hc z => ?_⟩
  · have qf := q.1 f hf
    try dsimp only
    have e : (B f = Int32.ofNat (max (lst a) (lst b))) = (lst f = max (lst a) (lst b)) := by rw [qf.1, fl_neq (by omega) (by omega)]
    unfold fl_jq
    by_cases c : lst f = max (lst a) (lst b)
    · rw [if_pos ⟨hf, e ▸ c⟩, if_pos c]
      exact ⟨rfl, by omega, fl_eqv_tr (fl_eqv_mo qf.2.2) (by rw [c]; exact hl)⟩
    · rw [if_neg (fun y => c (e ▸ y.2)), if_neg c]
      exact ⟨qf.1, qf.2.1, fl_eqv_mo qf.2.2⟩
  · have both : ∀ x, lst x = lst a ∨ lst x = lst b → (if lst x = max (lst a) (lst b) then min (lst a) (lst b) else lst x) = min (lst a) (lst b) := fun x hx => by
      split
      · rfl
      · omega
    try dsimp only
    rcases fl_eqv_1.mp z with h | ⟨h1, h2⟩ | ⟨h1, h2⟩
    · rw [q.2 f c hf hc h]
    · rw [both f (Or.inl (q.2 f a hf ha h1)), both c (Or.inr (q.2 c b hc hb h2))]
    · rw [both f (Or.inr (q.2 f b hf hb h1)), both c (Or.inl (q.2 c a hc ha h2))]
section
variable {k0 : Nat → Nat × Nat} {h : fl_H} {g : Nat → Nat} {s : Int64} {L : List (Nat × Nat)} {lst : Nat → Nat}
theorem fo_classes_a (hg : fl_g k0 h) (w : fl_wf g) (d : fl_rn h 27 g s) (e1 : fl_i h 4 1 = Int32.ofNat 6) : ∃ y A, fl_df fl_SK h y ∧ fl_cqs A (fl_JC g) ∧ fl_cl fl_C 197 [.ref 0] h = some (some (some (.int (Int32.ofNat (fl_cfo A (2 * (g 0 + g 2))).1))), fl_ca1 y (fl_cfo A (2 * (g 0 + g 2))).2) := by
  have w0 : g 0 ≤ 12 := w.1.2.2.2.1
  have w2 : g 2 ≤ 20 := w.1.2.2.2.2.1
  have R := fl_o27 (k0 := k0)
  have K := fl_kin (k0 := k0)
  have o27 : fl_KK k0 27 = (1, 7) ∧ fl_RR 27 0 = some 28 := ⟨R.1.1, R.1.2.1⟩
  have o28 := (fl_sk28 (k0 := k0)).1.1
  have o212 : fl_KK k0 212 = (1, 1) := K.1.1
  obtain ⟨v, y, e196, rfl, dy, qy⟩ := fc_196 hg w d.1
  have gy := fl_df_g hg dy
  have e66 := fc_66 gy (fl_sk28 (k0 := k0)) w (fl_SK_nt d.1 dy)
  have y1 : fl_i y 4 1 = Int32.ofNat 6 := by rw [(dy.2.2.2 4 1 (by omega)).1]; exact e1
  refine ⟨y, fl_l y 213, dy, qy, ?_⟩
  have at' : ∀ f, f < 64 → fl_cl fl_C 105 [.ref 212, .int (Int32.ofNat f)] y = some (some (some (.long (fl_l y 213 f))), y) := fun f hf => fc_at K.1 gy hf
  clear w d dy qy
  generalize fl_l y 213 = A at *
  have lp := fl_iter (fun f => fl_Rn fl_C 197 21 [some (.ref 0), some (.int (Int32.ofNat (fl_cfo A f).1)), some (.long (fl_cfo A f).2), none, some (.int (Int32.ofNat f))] [] y) (2 * (g 0 + g 2)) (fun f hf => by
    have ea := at' f (by omega)
    have lw := fl_low (x := A f) (f := f) (by omega)
    have b1 := fc_126 (h := y) (A f)
    have b2 := fc_126 (h := y) (fl_cfo A f).2
    have c1 := fl_cnt_le (q := fl_hb (A f)) 64
    have c2 := fl_cnt_le (q := fl_hb (fl_cfo A f).2) 64
    try dsimp only
    rw [fl_cfo]
    clear at'
    generalize fl_cfo A f = C at *
    generalize fl_cnt (fl_hb C.2) 64 = n2 at *
    generalize fl_cnt (fl_hb (A f)) 64 = n1 at *
    cases z : fl_any (fl_hb (A f)) f with
    | true =>
      have lw' := lw.trans (eq_false (fun y => by rw [z] at y; cases y))
      rw [if_pos rfl, fbC_197_21]
      simp (disch := omega) only [gy.1, gy.2, fl_KF, fl_RF, o27, o28, K.2, o212, fl_lit, fl_nadd, fl_nmul, fl_ndiv, fl_nsub, fl_msub, fl_nle, fl_nlt, fl_neq, fl_nclamp, fl_nin, fl_ltT, fl_ltF, fl_leT, fl_leF, fl_eqT, fl_eqF, decide_true, decide_false, Bool.true_and, Bool.and_true, Bool.false_and, Bool.and_false, if_true, if_false, Bool.false_eq_true, Option.isSome_some, Option.getD_some, not_true_eq_false, not_false_eq_true, Option.toList_some, Option.toList_none, List.cons_append, List.nil_append, e66, fbP_197_33, ea, fbP_197_48, lw', fbC_197_86]
    | false =>
      have lw' := lw.trans (eq_true z)
      rw [if_neg (by decide)]
      by_cases c : n2 < n1
      · rw [if_pos c, fbC_197_21]
        simp (disch := omega) only [gy.1, gy.2, fl_KF, fl_RF, o27, o28, K.2, o212, fl_lit, fl_nadd, fl_nmul, fl_ndiv, fl_nsub, fl_msub, fl_nle, fl_nlt, fl_neq, fl_nclamp, fl_nin, fl_ltT, fl_ltF, fl_leT, fl_leF, fl_eqT, fl_eqF, decide_true, decide_false, Bool.true_and, Bool.and_true, Bool.false_and, Bool.and_false, if_true, if_false, Bool.false_eq_true, Option.isSome_some, Option.getD_some, not_true_eq_false, not_false_eq_true, Option.toList_some, Option.toList_none, List.cons_append, List.nil_append, e66, fbP_197_33, ea, fbP_197_48, lw', b1, fbP_197_72, b2, fbP_197_76, fbC_197_86]
      · rw [if_neg c, fbC_197_21]
        simp (disch := omega) only [gy.1, gy.2, fl_KF, fl_RF, o27, o28, K.2, o212, fl_lit, fl_nadd, fl_nmul, fl_ndiv, fl_nsub, fl_msub, fl_nle, fl_nlt, fl_neq, fl_nclamp, fl_nin, fl_ltT, fl_ltF, fl_leT, fl_leF, fl_eqT, fl_eqF, decide_true, decide_false, Bool.true_and, Bool.and_true, Bool.false_and, Bool.and_false, if_true, if_false, Bool.false_eq_true, Option.isSome_some, Option.getD_some, not_true_eq_false, not_false_eq_true, Option.toList_some, Option.toList_none, List.cons_append, List.nil_append, e66, fbP_197_33, ea, fbP_197_48, lw', b1, fbP_197_72, b2, fbP_197_76, fbC_197_86])
  have t1 := fc_ca1 gy y1 (fl_cfo A (2 * (g 0 + g 2))).2
  have st : fl_cl fl_C 197 [.ref 0] h = fl_Rn fl_C 197 21 [some (.ref 0), some (.int (Int32.ofNat (fl_cfo A 0).1)), some (.long (fl_cfo A 0).2), none, some (.int (Int32.ofNat 0))] [] y := by
    rw [show fl_cfo A 0 = (0, 0) from rfl]
    clear lp at' t1
    rw [fbE_197]
    simp (disch := omega) only [hg.1, hg.2, fl_KF, fl_RF, o27, o28, K.2, fl_lit, fl_nadd, fl_nmul, fl_ndiv, fl_nsub, fl_msub, fl_nle, fl_nlt, fl_neq, fl_nclamp, fl_nin, fl_ltT, fl_ltF, fl_leT, fl_leF, fl_eqT, fl_eqF, decide_true, decide_false, Bool.true_and, Bool.and_true, Bool.false_and, Bool.and_false, if_true, if_false, Bool.false_eq_true, Option.isSome_some, Option.getD_some, not_true_eq_false, not_false_eq_true, Option.toList_some, Option.toList_none, List.cons_append, List.nil_append, e196, fbP_197_14]
  rw [st, lp]
  try dsimp only
  clear lp at' st
  generalize fl_ca1 y (fl_cfo A (2 * (g 0 + g 2))).2 = H1 at *
  generalize fl_cfo A (2 * (g 0 + g 2)) = C at *
  rw [fbC_197_21]
  simp (disch := omega) only [gy.1, gy.2, fl_KF, fl_RF, o27, o28, fl_lit, fl_nadd, fl_nmul, fl_ndiv, fl_nsub, fl_msub, fl_nle, fl_nlt, fl_neq, fl_nclamp, fl_nin, fl_ltT, fl_ltF, fl_leT, fl_leF, fl_eqT, fl_eqF, decide_true, decide_false, Bool.true_and, Bool.and_true, Bool.false_and, Bool.and_false, if_true, if_false, Bool.false_eq_true, Option.isSome_some, Option.getD_some, not_true_eq_false, not_false_eq_true, Option.toList_some, Option.toList_none, List.cons_append, List.nil_append, e66, fbP_197_33, t1, fbP_197_97]
theorem fo_classOf_a0 (hg : fl_g k0 h) (w : fl_wf g) (d : fl_rn h 27 g s) {p : Int32} (np : ¬ fl_in p (2 * (g 0 + g 2)) = true) : fl_cl fl_C 203 [.ref 0, .int p] h = some (some (some (.int (-Int32.ofNat 1))), h) := by
  have R := fl_o27 (k0 := k0)
  have o27 : fl_KK k0 27 = (1, 7) ∧ fl_RR 27 0 = some 28 := ⟨R.1.1, R.1.2.1⟩
  have o28 := (fl_sk28 (k0 := k0)).1.1
  have e162 := fc_162 hg (fl_sk28 (k0 := k0)) w d.1 p
  rw [if_neg np] at e162
  clear w d R
  rw [fbE_203]
  simp (disch := omega) only [hg.1, hg.2, fl_KF, fl_RF, o27, o28, fl_lit, fl_nadd, fl_nmul, fl_ndiv, fl_nsub, fl_msub, fl_nle, fl_nlt, fl_neq, fl_nclamp, fl_nin, fl_ltT, fl_ltF, fl_leT, fl_leF, fl_eqT, fl_eqF, decide_true, decide_false, Bool.true_and, Bool.and_true, Bool.false_and, Bool.and_false, if_true, if_false, Bool.false_eq_true, Option.isSome_some, Option.getD_some, not_true_eq_false, not_false_eq_true, Option.toList_some, Option.toList_none, List.cons_append, List.nil_append, e162, fbP_203_11]
theorem fo_classOf_a (hg : fl_g k0 h) (w : fl_wf g) (d : fl_rn h 27 g s) (e1 : fl_i h 4 1 = Int32.ofNat 6) {f : Nat} (hf : f < 2 * (g 0 + g 2)) : ∃ y A, fl_df fl_SK h y ∧ fl_cqs A (fl_JC g) ∧ fl_cl fl_C 203 [.ref 0, .int (Int32.ofNat f)] h = some (some (some (.int (Int32.ofNat (fl_cnt (fl_hb (A f)) 64)))), fl_ca1 y (A f)) := by
  have w0 : g 0 ≤ 12 := w.1.2.2.2.1
  have w2 : g 2 ≤ 20 := w.1.2.2.2.2.1
  have R := fl_o27 (k0 := k0)
  have K := fl_kin (k0 := k0)
  have o27 : fl_KK k0 27 = (1, 7) ∧ fl_RR 27 0 = some 28 := ⟨R.1.1, R.1.2.1⟩
  have o28 := (fl_sk28 (k0 := k0)).1.1
  have o212 : fl_KK k0 212 = (1, 1) := K.1.1
  have e162 := fc_162 hg (fl_sk28 (k0 := k0)) w d.1 (Int32.ofNat f)
  rw [if_pos (by rw [fl_nin (by omega)]; exact decide_eq_true hf)] at e162
  obtain ⟨v, y, e196, rfl, dy, qy⟩ := fc_196 hg w d.1
  have gy := fl_df_g hg dy
  have y1 : fl_i y 4 1 = Int32.ofNat 6 := by rw [(dy.2.2.2 4 1 (by omega)).1]; exact e1
  refine ⟨y, fl_l y 213, dy, qy, ?_⟩
  have ea := fc_at K.1 gy (show f < 64 by omega)
  have t1 := fc_ca1 gy y1 (fl_l y 213 f)
  have d1 := fl_ca1_df (h := y) (A := fl_l y 213 f)
  have g1 := fl_df_g gy d1
  have ea1 := fc_at K.1 g1 (show f < 64 by omega)
  rw [(d1.2.2.2 213 f (by omega)).2] at ea1
  have b := fc_126 (h := fl_ca1 y (fl_l y 213 f)) (fl_l y 213 f)
  clear w d dy qy d1
  generalize fl_ca1 y (fl_l y 213 f) = H1 at *
  generalize fl_l y 213 f = A at *
  rw [fbE_203]
  simp (disch := omega) only [hg.1, hg.2, gy.1, gy.2, g1.1, g1.2, fl_KF, fl_RF, o27, o28, K.2, o212, fl_lit, fl_nadd, fl_nmul, fl_ndiv, fl_nsub, fl_msub, fl_nle, fl_nlt, fl_neq, fl_nclamp, fl_nin, fl_ltT, fl_ltF, fl_leT, fl_leF, fl_eqT, fl_eqF, decide_true, decide_false, Bool.true_and, Bool.and_true, Bool.false_and, Bool.and_false, if_true, if_false, Bool.false_eq_true, Option.isSome_some, Option.getD_some, not_true_eq_false, not_false_eq_true, Option.toList_some, Option.toList_none, List.cons_append, List.nil_append, e162, fbP_203_11, e196, fbP_203_30, ea, fbP_203_42, t1, fbP_203_45, ea1, fbP_203_56, b, fbP_203_59]
/-- the reference joins two -/
theorem fr_198 (hg : fl_g k0 h) (m : fl_mm h g) (w : fl_wf g) (q : fl_rqs (fl_i h 276) (2 * (g 0 + g 2)) L lst) {a b : Nat} (ha : a < 2 * (g 0 + g 2)) (hb : b < 2 * (g 0 + g 2)) : ∃ y l', fl_cl fl_C 198 [.ref 259, .int (Int32.ofNat a), .int (Int32.ofNat b)] h = some (some none, y) ∧ fl_fx (fun b => b = 276) h y ∧ fl_rqs (fl_i y 276) (2 * (g 0 + g 2)) (L ++ [(a, b)]) l' := by
  have w0 : g 0 ≤ 12 := w.1.2.2.2.1
  have w2 : g 2 ≤ 20 := w.1.2.2.2.2.1
  have qa := q.1 a ha
  have qb := q.1 b hb
  refine ⟨fl_wi h 276 (fl_jq (fl_i h 276) (Int32.ofNat (min (lst a) (lst b))) (Int32.ofNat (max (lst a) (lst b))) (2 * (g 0 + g 2))), _, ?_, fl_fx_wi fl_fx_rfl rfl, by rw [fl_i_wi, if_pos rfl]; exact fl_rqs_j (by omega) q ha hb⟩
  have e51 := fr_51n (h := h) (a := lst a) (b := lst b) (by omega) (by omega)
  have e50 := fr_50n (h := h) (a := lst a) (b := lst b) (by omega) (by omega)
  have ba := qa.1
  have bb := qb.1
  have bd : ∀ f, f < 2 * (g 0 + g 2) → ∃ n, n < 64 ∧ fl_i h 276 f = Int32.ofNat n := fun f hf => ⟨lst f, by have := (q.1 f hf).2.1; omega, (q.1 f hf).1⟩
  have hi64 : max (lst a) (lst b) < 64 := by omega
  generalize min (lst a) (lst b) = lo at *
  generalize max (lst a) (lst b) = hi at *
  have j0 : fl_jq (fl_i h 276) (Int32.ofNat lo) (Int32.ofNat hi) 0 = fl_i h 276 := by
    funext j
    exact if_neg (fun z => absurd z.1 (Nat.not_lt_zero j))
  have js : ∀ f x, x = (if fl_i h 276 f = Int32.ofNat hi then Int32.ofNat lo else fl_i h 276 f) → fl_up (fl_jq (fl_i h 276) (Int32.ofNat lo) (Int32.ofNat hi) f) f x = fl_jq (fl_i h 276) (Int32.ofNat lo) (Int32.ofNat hi) (f + 1) := fun f x hx => by
    funext j
    unfold fl_up fl_jq
    by_cases e : j = f
    · subst e
      rw [if_pos rfl, hx]
      by_cases z : fl_i h 276 j = Int32.ofNat hi
      · rw [if_pos z, if_pos ⟨by omega, z⟩]
      · rw [if_neg z, if_neg (fun y => z y.2)]
    · rw [if_neg e]
      by_cases z : j < f ∧ fl_i h 276 j = Int32.ofNat hi
      · rw [if_pos z, if_pos ⟨by omega, z.2⟩]
      · rw [if_neg z, if_neg (fun y => z ⟨by omega, y.2⟩)]
  have jn : ∀ f, fl_jq (fl_i h 276) (Int32.ofNat lo) (Int32.ofNat hi) f f = fl_i h 276 f := fun f => if_neg (fun z => absurd z.1 (Nat.lt_irrefl f))
  have st : fl_cl fl_C 198 [.ref 259, .int (Int32.ofNat a), .int (Int32.ofNat b)] h = fl_Rn fl_C 198 36 [some (.ref 259), none, none, some (.int (Int32.ofNat lo)), some (.int (Int32.ofNat hi)), some (.int (Int32.ofNat 0))] [] (fl_wi h 276 (fl_jq (fl_i h 276) (Int32.ofNat lo) (Int32.ofNat hi) 0)) := by
    rw [j0, fl_wi_self rfl]
    clear m w q js jn bd
    rw [fbE_198]
    simp (disch := omega) only [hg.1, hg.2, fl_KM, fl_RM, fl_lit, fl_nadd, fl_nmul, fl_ndiv, fl_nsub, fl_msub, fl_nle, fl_nlt, fl_neq, fl_nclamp, fl_nin, fl_ltT, fl_ltF, fl_leT, fl_leF, fl_eqT, fl_eqF, decide_true, decide_false, Bool.true_and, Bool.and_true, Bool.false_and, Bool.and_false, if_true, if_false, Bool.false_eq_true, Option.isSome_some, Option.getD_some, not_true_eq_false, not_false_eq_true, Option.toList_some, Option.toList_none, List.cons_append, List.nil_append, fbC_198_6, ba, bb, e51, fbP_198_15, fbC_198_22, e50, fbP_198_31]
  have lp := fl_iter (fun f => fl_Rn fl_C 198 36 [some (.ref 259), none, none, some (.int (Int32.ofNat lo)), some (.int (Int32.ofNat hi)), some (.int (Int32.ofNat f))] [] (fl_wi h 276 (fl_jq (fl_i h 276) (Int32.ofNat lo) (Int32.ofNat hi) f))) (2 * (g 0 + g 2)) (fun f hf => by
    obtain ⟨n, n64, en⟩ := bd f hf
    have gx : fl_g k0 (fl_wi h 276 (fl_jq (fl_i h 276) (Int32.ofNat lo) (Int32.ofNat hi) f)) := ⟨by rw [fl_k_wi]; exact hg.1, by rw [fl_r_wi]; exact hg.2⟩
    have e88 := fr_88 gx (fun j hj => by rw [fl_i_wi, if_neg (by omega)]; exact m j hj : fl_mm (fl_wi h 276 (fl_jq (fl_i h 276) (Int32.ofNat lo) (Int32.ofNat hi) f)) g)
    have jf := jn f
    rw [en] at jf
    have js1 := js f
    try dsimp only
    by_cases z : n = hi
    · have s1 := js1 (Int32.ofNat lo) (by rw [en, z, if_pos rfl])
      rw [z] at jf
      rw [← s1]
      clear m w q js jn bd js1 s1
      generalize fl_jq (fl_i h 276) (Int32.ofNat lo) (Int32.ofNat hi) f = J at *
      rw [fbC_198_36]
      simp (disch := omega) only [fl_k_wl, fl_r_wl, fl_i_wl, fl_l_wl, fl_1_wl, fl_k_wi, fl_r_wi, fl_l_wi, fl_1_wi, fl_i_wi, fl_k_si, fl_r_si, fl_l_si, fl_k_sl, fl_r_sl, fl_i_sl, fl_up_self, fl_up_ne, fl_si_wi, fl_sl_wl, fl_wi_wi, fl_wl_wl, hg.1, hg.2, fl_KM, fl_RM, fl_lit, fl_nadd, fl_nmul, fl_ndiv, fl_nsub, fl_msub, fl_nle, fl_nlt, fl_neq, fl_nclamp, fl_nin, fl_ltT, fl_ltF, fl_leT, fl_leF, fl_eqT, fl_eqF, decide_true, decide_false, Bool.true_and, Bool.and_true, Bool.false_and, Bool.and_false, if_true, if_false, Bool.false_eq_true, Option.isSome_some, Option.getD_some, not_true_eq_false, not_false_eq_true, Option.toList_some, Option.toList_none, List.cons_append, List.nil_append, e88, fbP_198_42, jf, fbC_198_58, fbC_198_74, fbC_198_75]
    · have s1 := js1 (Int32.ofNat n) (by rw [en, if_neg (by rw [fl_neq (by omega) (by omega)]; exact z)])
      rw [← s1]
      clear m w q js jn bd js1 s1
      generalize fl_jq (fl_i h 276) (Int32.ofNat lo) (Int32.ofNat hi) f = J at *
      rw [fbC_198_36]
      simp (disch := omega) only [fl_k_wl, fl_r_wl, fl_i_wl, fl_l_wl, fl_1_wl, fl_k_wi, fl_r_wi, fl_l_wi, fl_1_wi, fl_i_wi, fl_k_si, fl_r_si, fl_l_si, fl_k_sl, fl_r_sl, fl_i_sl, fl_up_self, fl_up_ne, fl_si_wi, fl_sl_wl, fl_wi_wi, fl_wl_wl, hg.1, hg.2, fl_KM, fl_RM, fl_lit, fl_nadd, fl_nmul, fl_ndiv, fl_nsub, fl_msub, fl_nle, fl_nlt, fl_neq, fl_nclamp, fl_nin, fl_ltT, fl_ltF, fl_leT, fl_leF, fl_eqT, fl_eqF, decide_true, decide_false, Bool.true_and, Bool.and_true, Bool.false_and, Bool.and_false, if_true, if_false, Bool.false_eq_true, Option.isSome_some, Option.getD_some, not_true_eq_false, not_false_eq_true, Option.toList_some, Option.toList_none, List.cons_append, List.nil_append, e88, fbP_198_42, jf, fbC_198_58, fbC_198_74, fbC_198_75])
  rw [st, lp]
  try dsimp only
  have gx : fl_g k0 (fl_wi h 276 (fl_jq (fl_i h 276) (Int32.ofNat lo) (Int32.ofNat hi) (2 * (g 0 + g 2)))) := ⟨by rw [fl_k_wi]; exact hg.1, by rw [fl_r_wi]; exact hg.2⟩
  have e88 := fr_88 gx (fun j hj => by rw [fl_i_wi, if_neg (by omega)]; exact m j hj : fl_mm (fl_wi h 276 (fl_jq (fl_i h 276) (Int32.ofNat lo) (Int32.ofNat hi) (2 * (g 0 + g 2)))) g)
  clear m w q js jn bd lp st
  generalize fl_wi h 276 (fl_jq (fl_i h 276) (Int32.ofNat lo) (Int32.ofNat hi) (2 * (g 0 + g 2))) = X at *
  rw [fbC_198_36]
  simp (disch := omega) only [gx.1, fl_KM, fl_RM, fl_lit, fl_nadd, fl_nmul, fl_ndiv, fl_nsub, fl_msub, fl_nle, fl_nlt, fl_neq, fl_nclamp, fl_nin, fl_ltT, fl_ltF, fl_leT, fl_leF, fl_eqT, fl_eqF, decide_true, decide_false, Bool.true_and, Bool.and_true, Bool.false_and, Bool.and_false, if_true, if_false, Bool.false_eq_true, Option.isSome_some, Option.getD_some, not_true_eq_false, not_false_eq_true, Option.toList_some, Option.toList_none, List.cons_append, List.nil_append, e88, fbP_198_42]
end
