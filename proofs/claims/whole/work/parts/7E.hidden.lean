/-! hidden -/
def fl_len (g : Nat → Nat) (f : Nat) : Nat := match fl_few g f with | none => 0 | some x => x.1
abbrev fl_bt (f : Nat) : Int64 := 1 <<< (Int32.toInt64 (Int32.ofNat f) &&& 63)
def fl_hid (g : Nat → Nat) : Nat → Int64 × Nat
  | 0 => (0, 0)
  | f + 1 => if fl_len g f = 0 then fl_hid g f else if fl_len g f < (fl_hid g f).2 then fl_hid g f else if fl_len g f = (fl_hid g f).2 then ((fl_hid g f).1 ||| fl_bt f, fl_len g f) else (fl_bt f, fl_len g f)
abbrev fl_hno (g : Nat → Nat) (f : Nat) : Int64 := fl_bs (fun f => decide (fl_len g f = 0)) f
section
variable {k0 : Nat → Nat × Nat} {h : fl_H} {g ρ : Nat → Nat} {c : Nat × Nat × Nat × Bool} {s : Int64}
theorem fl_len_6 (w : fl_wf g) (f : Nat) : fl_len g f ≤ 6 := by
  unfold fl_len
  cases e : fl_few g f with
  | none => exact Nat.zero_le _
  | some x => exact (fl_few_b w e).2.1
theorem fl_hid_6 (w : fl_wf g) : ∀ f, (fl_hid g f).2 ≤ 6
  | 0 => Nat.zero_le _
  | f + 1 => by
    have a := fl_hid_6 w f
    have b := fl_len_6 w f
    rw [fl_hid]
    split
    · exact a
    · split
      · exact a
      · split
        · exact b
        · exact b
theorem fl_hno_y {f : Nat} (e : fl_len g f = 0) : fl_hno g (f + 1) = fl_hno g f ||| fl_bt f := by
  unfold fl_hno
  rw [fl_bs, if_pos (decide_eq_true e)]
theorem fl_hno_n {f : Nat} (e : fl_len g f ≠ 0) : fl_hno g (f + 1) = fl_hno g f ||| 0 := by
  unfold fl_hno
  rw [fl_bs, if_neg (by rw [decide_eq_false e]; decide)]
/-- a search answers its length; the reference's -1 for none -/
theorem fl_fq_len {v : Option Value} {y : fl_H} {f : Nat} (F : fl_fq (fl_few g f) v y) : v = some (.int (Int32.ofNat (fl_len g f))) := by
  unfold fl_len
  cases e : fl_few g f with
  | none => exact F.1 e
  | some x => exact (F.2 x e).1
theorem fl_rz_len (w : fl_wf g) {v : Option Value} {y : fl_H} {f : Nat} (F : fl_rz (fl_few g f) v y) : v = some (.int (if fl_len g f = 0 then -Int32.ofNat 1 else Int32.ofNat (fl_len g f))) := by
  unfold fl_len
  cases e : fl_few g f with
  | none => exact F.1 e
  | some x =>
    have b := (fl_few_b w e).1
    rw [if_neg (show ¬ x.1 = 0 by omega)]
    exact (F.2 x e).1
theorem fo_hidden_a (hg : fl_g k0 h) (w : fl_wf g) (d : fl_rn h 27 g s) (e1 : fl_i h 4 1 = Int32.ofNat 6) : ∃ y, fl_df (fun q _ => 144 ≤ q ∧ q ≤ 258) h y ∧ fl_cl fl_C 227 [.ref 0] h = some (some (some (.int (Int32.ofNat (fl_cnt (fl_hb (fl_hno g (2 * (g 0 + g 2)))) 64)))), fl_ca3 y (fl_hno g (2 * (g 0 + g 2))) (fl_hid g (2 * (g 0 + g 2))).1 (Int32.toInt64 (Int32.ofNat (fl_hid g (2 * (g 0 + g 2))).2))) := by
  have R := fl_o27 (k0 := k0)
  have N := fl_sk28 (k0 := k0)
  have w0 : g 0 ≤ 12 := w.1.2.2.2.1
  have w2 : g 2 ≤ 20 := w.1.2.2.2.2.1
  have nt : fl_net h 28 g := d.1
  obtain ⟨y0, e207, d0, M0⟩ := fc_207 hg w
  have g0' := fl_df_g hg d0
  have o27 : fl_KK k0 27 = (1, 7) ∧ fl_RR 27 0 = some 28 := ⟨R.1.1, R.1.2.1⟩
  have o28 := N.1.1
  have o214 := (fl_o214 (k0 := k0)).1
  have o4 := (fl_o4 (k0 := k0)).1
  have st : fl_cl fl_C 227 [.ref 0] h = fl_Rn fl_C 227 17 [some (.ref 0), some (.long (fl_hno g 0)), none, some (.long (fl_hid g 0).1), none, some (.int (Int32.ofNat (fl_hid g 0).2)), some (.int (Int32.ofNat 0))] [] y0 := by
    rw [show fl_hno g 0 = 0 from rfl, show fl_hid g 0 = (0, 0) from rfl]
    clear w d R N nt d0 M0
    rw [fbE_227]
    simp (disch := omega) only [hg.1, hg.2, fl_KF, fl_RF, o214, fl_lit, fl_nadd, fl_nmul, fl_ndiv, fl_nsub, fl_msub, fl_nle, fl_nlt, fl_neq, fl_nclamp, fl_nin, fl_ltT, fl_ltF, fl_leT, fl_leF, fl_eqT, fl_eqF, decide_true, decide_false, Bool.true_and, Bool.and_true, Bool.false_and, Bool.and_false, if_true, if_false, Bool.false_eq_true, Option.isSome_some, Option.getD_some, not_true_eq_false, not_false_eq_true, Option.toList_some, Option.toList_none, List.cons_append, List.nil_append, e207, fbP_227_14]
  rw [st]
  clear st e207
  suffices fl_to (fl_Rn fl_C 227 17 [some (.ref 0), some (.long (fl_hno g 0)), none, some (.long (fl_hid g 0).1), none, some (.int (Int32.ofNat (fl_hid g 0).2)), some (.int (Int32.ofNat 0))] [] y0) (fun v z => v = some (.int (Int32.ofNat (fl_cnt (fl_hb (fl_hno g (2 * (g 0 + g 2)))) 64))) ∧ ∃ y, fl_df (fun q _ => 144 ≤ q ∧ q ≤ 258) h y ∧ z = fl_ca3 y (fl_hno g (2 * (g 0 + g 2))) (fl_hid g (2 * (g 0 + g 2))).1 (Int32.toInt64 (Int32.ofNat (fl_hid g (2 * (g 0 + g 2))).2))) by
    obtain ⟨v, z, e, rfl, y, dy, rfl⟩ := this
    exact ⟨y, dy, e⟩
  refine fl_loopT (F := fun f x => fl_Rn fl_C 227 17 [some (.ref 0), some (.long (fl_hno g f)), none, some (.long (fl_hid g f).1), none, some (.int (Int32.ofNat (fl_hid g f).2)), some (.int (Int32.ofNat f))] [] x) (fun _ x => fl_df (fun q _ => 144 ≤ q ∧ q ≤ 258) h x ∧ fl_mgb x g) (2 * (g 0 + g 2)) ?_ ?_ 0 y0 (Nat.zero_le _) ⟨fl_df_mo d0 (fun q j z => by omega), M0⟩
  · rintro x ⟨dx, -⟩
    have gx := fl_df_g hg dx
    have e66 := fc_66 gx N w (fl_net_df nt dx (fun q j z => by omega))
    have x1 : fl_i x 4 1 = Int32.ofNat 6 := by rw [(dx.2.2.2 4 1 (by omega)).1]; exact e1
    have t1 := fc_ca1 gx x1 (fl_hno g (2 * (g 0 + g 2)))
    have t2 := fc_ca2 gx x1 (fl_hno g (2 * (g 0 + g 2))) (fl_hid g (2 * (g 0 + g 2))).1
    have t3 := fc_ca3 gx x1 (fl_hno g (2 * (g 0 + g 2))) (fl_hid g (2 * (g 0 + g 2))).1 (Int32.toInt64 (Int32.ofNat (fl_hid g (2 * (g 0 + g 2))).2))
    have ga1 := fl_df_g gx (fl_ca1_df (h := x) (A := fl_hno g (2 * (g 0 + g 2))))
    have ga2 := fl_df_g gx (fl_ca2_df (h := x) (A := fl_hno g (2 * (g 0 + g 2))) (B := (fl_hid g (2 * (g 0 + g 2))).1))
    have e126 := fc_126 (h := fl_ca3 x (fl_hno g (2 * (g 0 + g 2))) (fl_hid g (2 * (g 0 + g 2))).1 (Int32.toInt64 (Int32.ofNat (fl_hid g (2 * (g 0 + g 2))).2))) (fl_hno g (2 * (g 0 + g 2)))
    have fin : fl_Rn fl_C 227 17 [some (.ref 0), some (.long (fl_hno g (2 * (g 0 + g 2)))), none, some (.long (fl_hid g (2 * (g 0 + g 2))).1), none, some (.int (Int32.ofNat (fl_hid g (2 * (g 0 + g 2))).2)), some (.int (Int32.ofNat (2 * (g 0 + g 2))))] [] x = some (some (some (.int (Int32.ofNat (fl_cnt (fl_hb (fl_hno g (2 * (g 0 + g 2)))) 64)))), fl_ca3 x (fl_hno g (2 * (g 0 + g 2))) (fl_hid g (2 * (g 0 + g 2))).1 (Int32.toInt64 (Int32.ofNat (fl_hid g (2 * (g 0 + g 2))).2))) := by
      clear w d R N nt d0 M0 dx
      generalize fl_ca3 x (fl_hno g (2 * (g 0 + g 2))) (fl_hid g (2 * (g 0 + g 2))).1 (Int32.toInt64 (Int32.ofNat (fl_hid g (2 * (g 0 + g 2))).2)) = H3 at *
      generalize fl_ca2 x (fl_hno g (2 * (g 0 + g 2))) (fl_hid g (2 * (g 0 + g 2))).1 = H2 at *
      generalize fl_ca1 x (fl_hno g (2 * (g 0 + g 2))) = H1 at *
      generalize fl_cnt (fl_hb (fl_hno g (2 * (g 0 + g 2)))) 64 = CC at *
      generalize fl_hno g (2 * (g 0 + g 2)) = A at *
      generalize (fl_hid g (2 * (g 0 + g 2))).1 = B at *
      generalize (fl_hid g (2 * (g 0 + g 2))).2 = C at *
      rw [fbC_227_17]
      simp (disch := omega) only [gx.1, gx.2, ga1.1, ga1.2, ga2.1, ga2.2, fl_KF, fl_RF, o27, o28, o4, fl_lit, fl_nadd, fl_nmul, fl_ndiv, fl_nsub, fl_msub, fl_nle, fl_nlt, fl_neq, fl_nclamp, fl_nin, fl_ltT, fl_ltF, fl_leT, fl_leF, fl_eqT, fl_eqF, decide_true, decide_false, Bool.true_and, Bool.and_true, Bool.false_and, Bool.and_false, if_true, if_false, Bool.false_eq_true, Option.isSome_some, Option.getD_some, not_true_eq_false, not_false_eq_true, Option.toList_some, Option.toList_none, List.cons_append, List.nil_append, e66, fbP_227_29, t1, fbP_227_108, t2, fbP_227_116, t3, fbP_227_126, e126, fbP_227_130]
    exact ⟨_, _, fin, rfl, x, dx, rfl⟩
  · rintro f x hf ⟨dx, Mx⟩ hy
    have gx := fl_df_g hg dx
    have nx : fl_net x 28 g := fl_net_df nt dx (fun q j z => by omega)
    have e66 := fc_66 gx N w nx
    obtain ⟨v, y, e218, dy, My, F⟩ := fc_218 gx w nx Mx hf
    have v1 := fl_fq_len F
    subst v1
    have b6 := fl_len_6 w f
    have h6 := fl_hid_6 w f
    have fin : fl_Rn fl_C 227 17 [some (.ref 0), some (.long (fl_hno g f)), none, some (.long (fl_hid g f).1), none, some (.int (Int32.ofNat (fl_hid g f).2)), some (.int (Int32.ofNat f))] [] x = fl_Rn fl_C 227 17 [some (.ref 0), some (.long (fl_hno g (f + 1))), none, some (.long (fl_hid g (f + 1)).1), none, some (.int (Int32.ofNat (fl_hid g (f + 1)).2)), some (.int (Int32.ofNat (f + 1)))] [] y := by
      have hy' : fl_len g f = 0 → fl_hno g (f + 1) = fl_hno g f ||| fl_bt f := fl_hno_y
      have hn' : fl_len g f ≠ 0 → fl_hno g (f + 1) = fl_hno g f ||| 0 := fl_hno_n
      have o0 : ∀ x : Int64, x ||| 0 = x := fun x => Int64.or_zero
      rw [show fl_hid g (f + 1) = if fl_len g f = 0 then fl_hid g f else if fl_len g f < (fl_hid g f).2 then fl_hid g f else if fl_len g f = (fl_hid g f).2 then ((fl_hid g f).1 ||| fl_bt f, fl_len g f) else (fl_bt f, fl_len g f) from rfl]
      clear w d R N nt d0 M0 dx Mx dy My F hy nx
      generalize fl_hno g (f + 1) = A1 at *
      generalize fl_hno g f = A at *
      generalize fl_len g f = L at *
      generalize fl_hid g f = HG at *
      by_cases c0 : L = 0
      · rw [if_pos c0, hy' c0, fbC_227_17]
        simp (disch := omega) only [gx.1, gx.2, fl_KF, fl_RF, o27, o28, o214, fl_lit, fl_nadd, fl_nmul, fl_ndiv, fl_nsub, fl_msub, fl_nle, fl_nlt, fl_neq, fl_nclamp, fl_nin, fl_ltT, fl_ltF, fl_leT, fl_leF, fl_eqT, fl_eqF, decide_true, decide_false, Bool.true_and, Bool.and_true, Bool.false_and, Bool.and_false, if_true, if_false, Bool.false_eq_true, Option.isSome_some, Option.getD_some, not_true_eq_false, not_false_eq_true, Option.toList_some, Option.toList_none, List.cons_append, List.nil_append, e66, fbP_227_29, e218, fbP_227_48, fbC_227_97]
      · rw [if_neg c0, hn' c0, o0]
        by_cases c1 : L < HG.2
        · rw [if_pos c1, fbC_227_17]
          simp (disch := omega) only [gx.1, gx.2, fl_KF, fl_RF, o27, o28, o214, fl_lit, fl_nadd, fl_nmul, fl_ndiv, fl_nsub, fl_msub, fl_nle, fl_nlt, fl_neq, fl_nclamp, fl_nin, fl_ltT, fl_ltF, fl_leT, fl_leF, fl_eqT, fl_eqF, decide_true, decide_false, Bool.true_and, Bool.and_true, Bool.false_and, Bool.and_false, if_true, if_false, Bool.false_eq_true, Option.isSome_some, Option.getD_some, not_true_eq_false, not_false_eq_true, Option.toList_some, Option.toList_none, List.cons_append, List.nil_append, e66, fbP_227_29, e218, fbP_227_48, fbC_227_97]
        · rw [if_neg c1]
          by_cases c2 : L = HG.2
          · rw [if_pos c2, fbC_227_17]
            simp (disch := omega) only [gx.1, gx.2, fl_KF, fl_RF, o27, o28, o214, fl_lit, fl_nadd, fl_nmul, fl_ndiv, fl_nsub, fl_msub, fl_nle, fl_nlt, fl_neq, fl_nclamp, fl_nin, fl_ltT, fl_ltF, fl_leT, fl_leF, fl_eqT, fl_eqF, decide_true, decide_false, Bool.true_and, Bool.and_true, Bool.false_and, Bool.and_false, if_true, if_false, Bool.false_eq_true, Option.isSome_some, Option.getD_some, not_true_eq_false, not_false_eq_true, Option.toList_some, Option.toList_none, List.cons_append, List.nil_append, e66, fbP_227_29, e218, fbP_227_48, fbC_227_97]
          · rw [if_neg c2, fbC_227_17]
            simp (disch := omega) only [gx.1, gx.2, fl_KF, fl_RF, o27, o28, o214, fl_lit, fl_nadd, fl_nmul, fl_ndiv, fl_nsub, fl_msub, fl_nle, fl_nlt, fl_neq, fl_nclamp, fl_nin, fl_ltT, fl_ltF, fl_leT, fl_leF, fl_eqT, fl_eqF, decide_true, decide_false, Bool.true_and, Bool.and_true, Bool.false_and, Bool.and_false, if_true, if_false, Bool.false_eq_true, Option.isSome_some, Option.getD_some, not_true_eq_false, not_false_eq_true, Option.toList_some, Option.toList_none, List.cons_append, List.nil_append, e66, fbP_227_29, e218, fbP_227_48, fbC_227_97]
    rw [fin]
    exact hy y ⟨fl_df_tr dx (fl_df_mo dy (fun q j z => by omega)), My⟩
end
