/-! A SEARCH, the class's side: the fewest -/
abbrev fl_SG (q j : Nat) : Prop := (q = 214 ∧ j = 8) ∨ (216 ≤ q ∧ q ≤ 258)
/-- what a search answers -/
abbrev fl_fq (z : Option (Nat × (Nat → Nat))) (v : Option Value) (y : fl_H) : Prop := (z = none → v = some (.int (Int32.ofNat 0))) ∧ ∀ x, z = some x → v = some (.int (Int32.ofNat x.1)) ∧ ∀ j, j < x.1 → fl_l y 216 j = Int64.ofNat (x.2 j)
section
variable {k0 : Nat → Nat × Nat} {h : fl_H} {g ρ : Nat → Nat} {a : Nat} {lv : Nat → Bool} {S : fl_Se}
abbrev fl_Lp (k0 : Nat → Nat × Nat) (g : Nat → Nat) (i : Nat) (S : fl_Se) (h : fl_H) : Prop := fl_g k0 h ∧ fl_net h 28 g ∧ fl_cs h g S ∧ fl_mgb h g ∧ fl_J0 g S ∧ fl_J1 S i
theorem fc_218i (w : fl_wf g) {f i D : Nat} (hf : f < 2 * (g 0 + g 2)) {Q : Option Value → fl_H → Prop} : ∀ r n (S : fl_Se) (h : fl_H), fl_Lp k0 g i S h → i < S.1 → (S.2.1 i).2.2.1 = D → D < 6 → n + r = 2 ^ g 1 → (∀ S' y, fl_inn g f i r n S = .inl S' → fl_df fl_SG h y → fl_Lp k0 g i S' y → i < S'.1 → fl_to (fl_Rn fl_C 218 34 [some (.ref 214), some (.ref 28), some (.int (Int32.ofNat f)), none, some (.int (Int32.ofNat (i + 1)))] [] y) Q) → (∀ x y, fl_inn g f i r n S = .inr x → fl_df fl_SG h y → fl_mgb y g → (∀ j, j < x.1 → fl_l y 216 j = Int64.ofNat (x.2 j)) → Q (some (.int (Int32.ofNat x.1))) y) → fl_to (fl_Rn fl_C 218 74 [some (.ref 214), some (.ref 28), some (.int (Int32.ofNat f)), none, some (.int (Int32.ofNat i)), some (.int (Int32.ofNat D)), some (.int (Int32.ofNat n))] [] h) Q
  | 0, n, S, h, P, hi, hD, d6, hn, q1, q2 => by
    obtain ⟨hg, d, I, M, J, L⟩ := P
    have o28 := (fl_sk28 (k0 := k0)).1.1
    have ii := d.1.1
    have w4 : g 1 ≤ 4 := w.1.2.1
    have sh := fl_sh1 (g 1) (by omega)
    have p16 := fl_p2 w4
    have s729 := fl_J_729 J
    have q := q1 S h rfl fl_df_rfl ⟨hg, d, I, M, J, L⟩ hi
    have st : fl_Rn fl_C 218 74 [some (.ref 214), some (.ref 28), some (.int (Int32.ofNat f)), none, some (.int (Int32.ofNat i)), some (.int (Int32.ofNat D)), some (.int (Int32.ofNat n))] [] h = fl_Rn fl_C 218 34 [some (.ref 214), some (.ref 28), some (.int (Int32.ofNat f)), none, some (.int (Int32.ofNat (i + 1)))] [] h := by
      rw [show n = 2 ^ g 1 by omega]
      clear d w I M J L q q1 q2
      generalize 2 ^ g 1 = E at *
      rw [fbC_218_74]
      simp (disch := omega) only [hg.1, o28, fl_lit, fl_nadd, fl_nmul, fl_ndiv, fl_nsub, fl_msub, fl_nle, fl_nlt, fl_neq, fl_nclamp, fl_nin, fl_ltT, fl_ltF, fl_leT, fl_leF, fl_eqT, fl_eqF, decide_true, decide_false, Bool.true_and, Bool.and_true, Bool.false_and, Bool.and_false, if_true, if_false, Bool.false_eq_true, Option.isSome_some, Option.getD_some, not_true_eq_false, not_false_eq_true, Option.toList_some, Option.toList_none, List.cons_append, List.nil_append, ii, sh]
    rw [st]
    exact q
  | r + 1, n, S, h, P, hi, hD, d6, hn, q1, q2 => by
    obtain ⟨hg, d, I, M, J, L⟩ := P
    have o28 := (fl_sk28 (k0 := k0)).1.1
    have o214 := (fl_o214 (k0 := k0)).1
    have ii := d.1.1
    have w4 : g 1 ≤ 4 := w.1.2.1
    have sh := fl_sh1 (g 1) (by omega)
    have p16 := fl_p2 w4
    have s729 := fl_J_729 J
    have w0 : g 0 ≤ 12 := w.1.2.2.2.1
    have w2 : g 2 ≤ 20 := w.1.2.2.2.2.1
    have Jn := fl_J0_rch w (f := f) J hi L (by omega) (n := n) (by omega)
    obtain ⟨y, ey, dy, My, Iy⟩ := fc_216 hg w d I J M hi hf (n := n) (by omega) Jn.1 (by omega)
    have gy := fl_df_g hg dy
    have dG : fl_df fl_SG h y := fl_df_mo dy (fun q j z => by omega)
    have ny : fl_net y 28 g := fl_net_df d dy (fun q j z => by omega)
    by_cases c : fl_sh g f (S.2.1 i) n = true
    · rw [if_pos c] at ey Iy
      obtain ⟨z, ez, dz, cz⟩ := fc_217 gy J Iy hi (by omega) (n := n) (by omega)
      rw [hD] at ez
      have q := q2 (fl_ans S.2.1 i n) z (by rw [fl_inn, if_pos c]) (fl_df_tr dG (fl_df_mo dz (fun q j z => by omega))) (fl_mgb_df w My dz (fun q j z1 z2 => by omega)) cz
      have a1 : (fl_ans S.2.1 i n).1 = D + 1 := by unfold fl_ans; rw [hD]
      rw [a1] at q
      have st : fl_Rn fl_C 218 74 [some (.ref 214), some (.ref 28), some (.int (Int32.ofNat f)), none, some (.int (Int32.ofNat i)), some (.int (Int32.ofNat D)), some (.int (Int32.ofNat n))] [] h = some (some (some (.int (Int32.ofNat (D + 1)))), z) := by
        clear d w I M J L q q1 q2 Jn Iy My dy dG dz cz ny a1
        generalize 2 ^ g 1 = E at *
        rw [fbC_218_74]
        simp (disch := omega) only [hg.1, gy.1, o28, o214, fl_lit, fl_nadd, fl_nmul, fl_ndiv, fl_nsub, fl_msub, fl_nle, fl_nlt, fl_neq, fl_nclamp, fl_nin, fl_ltT, fl_ltF, fl_leT, fl_leF, fl_eqT, fl_eqF, decide_true, decide_false, Bool.true_and, Bool.and_true, Bool.false_and, Bool.and_false, if_true, if_false, Bool.false_eq_true, Option.isSome_some, Option.getD_some, not_true_eq_false, not_false_eq_true, Option.toList_some, Option.toList_none, List.cons_append, List.nil_append, ii, sh, ey, fbP_218_95, ez, fbP_218_108]
      rw [st]
      exact fl_to_mk q
    · rw [if_neg c] at ey Iy
      have ih := fc_218i w (i := i) (D := D) hf (Q := Q) r (n + 1) (fl_rch g S (fl_nxe g f i (S.2.1 i) n)) y ⟨gy, ny, Iy, My, Jn.1, Jn.2.1⟩ (by omega) (by rw [Jn.2.2.2 i hi]; exact hD) d6 (by omega) (fun S' x e dx Px ix => q1 S' x (by rw [fl_inn, if_neg c]; exact e) (fl_df_tr dG dx) Px ix) (fun x z e dz Mz cz => q2 x z (by rw [fl_inn, if_neg c]; exact e) (fl_df_tr dG dz) Mz cz)
      have st : fl_Rn fl_C 218 74 [some (.ref 214), some (.ref 28), some (.int (Int32.ofNat f)), none, some (.int (Int32.ofNat i)), some (.int (Int32.ofNat D)), some (.int (Int32.ofNat n))] [] h = fl_Rn fl_C 218 74 [some (.ref 214), some (.ref 28), some (.int (Int32.ofNat f)), none, some (.int (Int32.ofNat i)), some (.int (Int32.ofNat D)), some (.int (Int32.ofNat (n + 1)))] [] y := by
        clear d w I M J L q1 q2 Jn Iy My dy dG ny ih
        generalize 2 ^ g 1 = E at *
        rw [fbC_218_74]
        simp (disch := omega) only [hg.1, gy.1, o28, o214, fl_lit, fl_nadd, fl_nmul, fl_ndiv, fl_nsub, fl_msub, fl_nle, fl_nlt, fl_neq, fl_nclamp, fl_nin, fl_ltT, fl_ltF, fl_leT, fl_leF, fl_eqT, fl_eqF, decide_true, decide_false, Bool.true_and, Bool.and_true, Bool.false_and, Bool.and_false, if_true, if_false, Bool.false_eq_true, Option.isSome_some, Option.getD_some, not_true_eq_false, not_false_eq_true, Option.toList_some, Option.toList_none, List.cons_append, List.nil_append, ii, sh, ey, fbP_218_95]
      rw [st]
      exact ih
theorem fc_218o (w : fl_wf g) {f : Nat} (hf : f < 2 * (g 0 + g 2)) {Q : Option Value → fl_H → Prop} : ∀ r i (S : fl_Se) (h : fl_H), fl_Lp k0 g i S h → i + r = 729 → (∀ v y, fl_df fl_SG h y → fl_mgb y g → fl_fq (fl_out g f r i S) v y → Q v y) → fl_to (fl_Rn fl_C 218 34 [some (.ref 214), some (.ref 28), some (.int (Int32.ofNat f)), none, some (.int (Int32.ofNat i))] [] h) Q
  | 0, i, S, h, P, hi, q => by
    obtain ⟨hg, d, I, M, J, L⟩ := P
    have o214 := (fl_o214 (k0 := k0)).1
    have i8 := I.1
    have s729 := fl_J_729 J
    have q' := q (some (.int (Int32.ofNat 0))) h fl_df_rfl M ⟨fun _ => rfl, fun x z => by cases z⟩
    have st : fl_Rn fl_C 218 34 [some (.ref 214), some (.ref 28), some (.int (Int32.ofNat f)), none, some (.int (Int32.ofNat i))] [] h = some (some (some (.int (Int32.ofNat 0))), h) := by
      clear d w I M J L q q'
      rw [fbC_218_34]
      simp (disch := omega) only [hg.1, o214, fl_lit, fl_nadd, fl_nmul, fl_ndiv, fl_nsub, fl_msub, fl_nle, fl_nlt, fl_neq, fl_nclamp, fl_nin, fl_ltT, fl_ltF, fl_leT, fl_leF, fl_eqT, fl_eqF, decide_true, decide_false, Bool.true_and, Bool.and_true, Bool.false_and, Bool.and_false, if_true, if_false, Bool.false_eq_true, Option.isSome_some, Option.getD_some, not_true_eq_false, not_false_eq_true, Option.toList_some, Option.toList_none, List.cons_append, List.nil_append, i8, fbC_218_125]
    rw [st]
    exact fl_to_mk q'
  | r + 1, i, S, h, P, hi, q => by
    obtain ⟨hg, d, I, M, J, L⟩ := P
    have o214 := fl_o214 (k0 := k0)
    have K := fl_o249 (k0 := k0)
    have c4 := K.2.2.1.1
    have i8 := I.1
    have s729 := fl_J_729 J
    by_cases c1 : i < S.1
    · have e24 := fc_int K.2.2.1 hg (show i < 729 by omega)
      rw [(I.2.2 i c1).2.1, fl_o32] at e24
      have D6 := J.2.2.2.2.2 i c1
      by_cases c2 : (S.2.1 i).2.2.1 < 6
      · have st : fl_Rn fl_C 218 34 [some (.ref 214), some (.ref 28), some (.int (Int32.ofNat f)), none, some (.int (Int32.ofNat i))] [] h = fl_Rn fl_C 218 74 [some (.ref 214), some (.ref 28), some (.int (Int32.ofNat f)), none, some (.int (Int32.ofNat i)), some (.int (Int32.ofNat (S.2.1 i).2.2.1)), some (.int (Int32.ofNat 0))] [] h := by
          clear d w I M J L q K
          generalize (S.2.1 i).2.2.1 = D at *
          rw [fbC_218_34]
          simp (disch := omega) only [hg.1, hg.2, o214, c4, fl_lit, fl_nadd, fl_nmul, fl_ndiv, fl_nsub, fl_msub, fl_nle, fl_nlt, fl_neq, fl_nclamp, fl_nin, fl_ltT, fl_ltF, fl_leT, fl_leF, fl_eqT, fl_eqF, decide_true, decide_false, Bool.true_and, Bool.and_true, Bool.false_and, Bool.and_false, if_true, if_false, Bool.false_eq_true, Option.isSome_some, Option.getD_some, not_true_eq_false, not_false_eq_true, Option.toList_some, Option.toList_none, List.cons_append, List.nil_append, i8, e24, fbP_218_60]
        rw [st]
        refine fc_218i w hf (2 ^ g 1) 0 S h ⟨hg, d, I, M, J, L⟩ c1 rfl c2 (by omega) (fun S' y e dy Py iy => ?_) (fun x y e dy My cy => ?_)
        · refine fc_218o w hf r (i + 1) S' y ⟨Py.1, Py.2.1, Py.2.2.1, Py.2.2.2.1, Py.2.2.2.2.1, fl_J1_up Py.2.2.2.2.1 iy Py.2.2.2.2.2⟩ (by omega) (fun v z dz Mz F => q v z (fl_df_tr dy dz) Mz ?_)
          have : fl_out g f (r + 1) i S = fl_out g f r (i + 1) S' := by rw [fl_out, if_pos ⟨c1, c2⟩, e]
          rw [this]
          exact F
        · refine q _ y dy My ?_
          have : fl_out g f (r + 1) i S = some x := by rw [fl_out, if_pos ⟨c1, c2⟩, e]
          rw [this]
          exact ⟨fun z => (by cases z), fun x' z => (by cases z; exact ⟨rfl, cy⟩)⟩
      · have ou : fl_out g f (r + 1) i S = none := by rw [fl_out, if_neg (fun z => c2 z.2)]
        have q' := q (some (.int (Int32.ofNat 0))) h fl_df_rfl M (by rw [ou]; exact ⟨fun _ => rfl, fun x z => by cases z⟩)
        have st : fl_Rn fl_C 218 34 [some (.ref 214), some (.ref 28), some (.int (Int32.ofNat f)), none, some (.int (Int32.ofNat i))] [] h = some (some (some (.int (Int32.ofNat 0))), h) := by
          clear d w I M J L q K q' ou
          generalize (S.2.1 i).2.2.1 = D at *
          rw [fbC_218_34]
          simp (disch := omega) only [hg.1, hg.2, o214, c4, fl_lit, fl_nadd, fl_nmul, fl_ndiv, fl_nsub, fl_msub, fl_nle, fl_nlt, fl_neq, fl_nclamp, fl_nin, fl_ltT, fl_ltF, fl_leT, fl_leF, fl_eqT, fl_eqF, decide_true, decide_false, Bool.true_and, Bool.and_true, Bool.false_and, Bool.and_false, if_true, if_false, Bool.false_eq_true, Option.isSome_some, Option.getD_some, not_true_eq_false, not_false_eq_true, Option.toList_some, Option.toList_none, List.cons_append, List.nil_append, i8, e24, fbP_218_60]
        rw [st]
        exact fl_to_mk q'
    · have ou : fl_out g f (r + 1) i S = none := by rw [fl_out, if_neg (fun z => c1 z.1)]
      have q' := q (some (.int (Int32.ofNat 0))) h fl_df_rfl M (by rw [ou]; exact ⟨fun _ => rfl, fun x z => by cases z⟩)
      have st : fl_Rn fl_C 218 34 [some (.ref 214), some (.ref 28), some (.int (Int32.ofNat f)), none, some (.int (Int32.ofNat i))] [] h = some (some (some (.int (Int32.ofNat 0))), h) := by
        clear d w I M J L q K q' ou
        rw [fbC_218_34]
        simp (disch := omega) only [hg.1, o214, fl_lit, fl_nadd, fl_nmul, fl_ndiv, fl_nsub, fl_msub, fl_nle, fl_nlt, fl_neq, fl_nclamp, fl_nin, fl_ltT, fl_ltF, fl_leT, fl_leF, fl_eqT, fl_eqF, decide_true, decide_false, Bool.true_and, Bool.and_true, Bool.false_and, Bool.and_false, if_true, if_false, Bool.false_eq_true, Option.isSome_some, Option.getD_some, not_true_eq_false, not_false_eq_true, Option.toList_some, Option.toList_none, List.cons_append, List.nil_append, i8, fbC_218_125]
      rw [st]
      exact fl_to_mk q'
theorem fc_218 (hg : fl_g k0 h) (w : fl_wf g) (d : fl_net h 28 g) (M : fl_mgb h g) {f : Nat} (hf : f < 2 * (g 0 + g 2)) : ∃ v y, fl_cl fl_C 218 [.ref 214, .ref 28, .int (Int32.ofNat f)] h = some (some v, y) ∧ fl_df fl_SG h y ∧ fl_mgb y g ∧ fl_fq (fl_few g f) v y := by
  have o214 := fl_o214 (k0 := k0)
  have K := fl_o249 (k0 := k0)
  have c1 := K.1.1
  have e208 := fc_208 hg w d
  have rr : fl_r2 g (fun k => g (40 + k)) := fun k hk => fl_st_le w hk
  have lt := fl_cc_lt w rr
  have e205 := fc_fill K.1 hg 0
  have d1 : fl_df (fun q _ => q = 250) h (fl_wl h 250 (fl_al 729 (fun _ => 0) (fl_l h 250))) := fl_df_wl fl_df_rfl (fun j z => absurd rfl z)
  have l1 : ∀ c, c < 729 → fl_l (fl_wl h 250 (fl_al 729 (fun _ => 0) (fl_l h 250))) 250 c = 0 := fun c hc => by rw [fl_l_wl, if_pos rfl, fl_al_lt hc]
  generalize fl_wl h 250 (fl_al 729 (fun _ => 0) (fl_l h 250)) = h1 at *
  have g1 := fl_df_g hg d1
  have d2 : fl_df (fun q j => q = 250 ∨ (q = 214 ∧ j = 8)) h (fl_wi h1 214 (fl_up (fl_i h1 214) 8 (Int32.ofNat 0))) := fl_df_wiu (fl_df_mo d1 (fun q j z => Or.inl z)) (Or.inr ⟨rfl, rfl⟩)
  have i2 : fl_i (fl_wi h1 214 (fl_up (fl_i h1 214) 8 (Int32.ofNat 0))) 214 8 = Int32.ofNat 0 := by rw [fl_i_wi, if_pos rfl, fl_up_self]
  have l2 : fl_l (fl_wi h1 214 (fl_up (fl_i h1 214) 8 (Int32.ofNat 0))) = fl_l h1 := fl_l_wi
  generalize hH : fl_wi h1 214 (fl_up (fl_i h1 214) 8 (Int32.ofNat 0)) = h2 at *
  have g2 := fl_df_g hg d2
  have I2 : fl_cs h2 g (0, fun _ => fl_en0 g, fun _ => false) := ⟨i2, fun c hc => by rw [l2, l1 c hc]; rfl, fun k hk => absurd hk (Nat.not_lt_zero _)⟩
  obtain ⟨y, e209, dy, Iy⟩ := fc_209 g2 I2 (e := fl_en0 g) (-Int32.ofNat 1) (fun z => absurd z (Nat.not_lt_zero _)) (show 0 < 1000 by decide) (show 0 < 1000 by decide) (show 0 < 1000 by decide) (fl_cp_lt w rr rr) (fun _ => (show 0 < 729 by decide))
  have rc : fl_rch g (0, fun _ => fl_en0 g, fun _ => false) (fl_en0 g) = (1, fl_up (fun _ => fl_en0 g) 0 (fl_en0 g), fl_up (fun _ => false) (fl_cpc g (fl_en0 g)) true) := by
    unfold fl_rch
    exact if_neg Bool.false_ne_true
  have up : fl_up (fun _ => fl_en0 g) 0 (fl_en0 g) = fun _ => fl_en0 g := funext (fun j => by unfold fl_up; split <;> rfl)
  rw [rc, up] at Iy
  have dG : fl_df fl_SG h y := fl_df_tr (fl_df_mo d2 (fun q j z => by omega)) (fl_df_mo dy (fun q j z => by omega))
  have My : fl_mgb y g := fl_mgb_df w (fl_mgb_df w M d2 (fun q j z1 z2 => by omega)) dy (fun q j z1 z2 => by omega)
  have Jn := fl_J0_0 w
  have lp := fc_218o w hf (Q := fun v z => fl_df fl_SG h z ∧ fl_mgb z g ∧ fl_fq (fl_few g f) v z) 729 0 (fl_s0 g) y ⟨fl_df_g hg dG, fl_net_df d dG (fun q j z => by omega), Iy, My, Jn.1, Jn.2⟩ (by omega) (fun v z dz Mz F => ⟨fl_df_tr dG dz, Mz, F⟩)
  obtain ⟨v, z, ez, r⟩ := lp
  refine ⟨v, z, ?_, r⟩
  have hc' : fl_cpc g (fl_en0 g) = fl_cc g (fun k => g (40 + k)) * 27 + fl_cc g (fun k => g (40 + k)) := rfl
  rw [hc'] at e209
  dsimp only at e209
  clear w d M K d1 l1 d2 i2 l2 I2 dy Iy dG My Jn r rc up rr hc'
  generalize fl_cc g (fun k => g (40 + k)) = C at *
  rw [fbE_218]
  simp (disch := omega) only [fl_si_wi, hg.1, hg.2, g1.1, g1.2, g2.1, g2.2, o214, c1, fl_lit, fl_nadd, fl_nmul, fl_ndiv, fl_nsub, fl_msub, fl_nle, fl_nlt, fl_neq, fl_nclamp, fl_nin, fl_ltT, fl_ltF, fl_leT, fl_leF, fl_eqT, fl_eqF, decide_true, decide_false, Bool.true_and, Bool.and_true, Bool.false_and, Bool.and_false, if_true, if_false, Bool.false_eq_true, Option.isSome_some, Option.getD_some, not_true_eq_false, not_false_eq_true, Option.toList_some, Option.toList_none, List.cons_append, List.nil_append, e208, fbP_218_4, e205, fbP_218_13, hH, fbC_218_18, e209, fbP_218_31, ez]
end
