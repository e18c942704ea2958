/-! A SEARCH, the reference's side: whole -/
/-- what the reference's search answers -/
abbrev fl_rz (z : Option (Nat × (Nat → Nat))) (v : Option Value) (y : fl_H) : Prop := (z = none → v = some (.int (-Int32.ofNat 1))) ∧ ∀ x, z = some x → v = some (.int (Int32.ofNat x.1)) ∧ ∀ j, j < x.1 → fl_i y 281 j = Int32.ofNat (x.2 j)
section
variable {k0 : Nat → Nat × Nat} {h : fl_H} {g ρ : Nat → Nat} {S : fl_Se}
theorem fr_225y (hg : fl_g k0 h) (m : fl_mm h g) (w : fl_wf g) (I : fl_rq h g S) (J : fl_J0 g S) {i f n : Nat} (hi : i < S.1) (hf : f < 2 * (g 0 + g 2)) (hn : n < 2 ^ g 1) (d6 : (S.2.1 i).2.2.1 < 6) (c : fl_sh g f (S.2.1 i) n = true) : ∃ y, fl_Rn fl_C 225 53 [some (.ref 259), some (.int (Int32.ofNat f)), some (.int (Int32.ofNat i)), some (.int (Int32.ofNat n))] [] h = some (some (some (.int (Int32.ofNat (fl_ans S.2.1 i n).1))), y) ∧ fl_df fl_scr h y ∧ ∀ j, j < (fl_ans S.2.1 i n).1 → fl_i y 281 j = Int32.ofNat ((fl_ans S.2.1 i n).2 j) := by
  have w0 : g 0 ≤ 12 := w.1.2.2.2.1
  obtain ⟨x, ex, dx, -⟩ := fr_225t hg m w I J hi hf hn d6
  have gx := fl_df_g hg dx
  have Ix : fl_rq x g S := fl_rq_df I dx (by omega) (fun q j a b => by omega)
  have bz := fl_bi_0 (q := fl_sq g (fl_vv g 64 n (S.2.1 i).1) (fl_vv g f n (S.2.1 i).2.1)) (ln := fun o => g (72 + o)) (n := g 3) (fun o ho => by have := w.2.2.2.2.2.1 o ho; omega)
  have nz : (fl_bi (fl_sq g (fl_vv g 64 n (S.2.1 i).1) (fl_vv g f n (S.2.1 i).2.1)) (fun o => g (72 + o)) (g 3) = Int32.ofNat 0) = False := by
    rw [bz]
    exact eq_false (fun z => by unfold fl_sh at c; rw [c] at z; cases z)
  obtain ⟨y, ey, dy, cy⟩ := fr_223 (n := n) gx J Ix hi d6
  have gy := fl_df_g gx dy
  have s729 := fl_J_729 J
  have c2 : fl_i y 280 i = Int32.ofNat (S.2.1 i).2.2.1 := by rw [(dy.2.2.2 280 i (by omega)).1]; exact (Ix.2 i hi).2.1
  refine ⟨y, ?_, fl_df_tr (fl_df_mo dx (fun q j z => by omega)) (fl_df_mo dy (fun q j z => by omega)), cy⟩
  rw [ex, show (fl_ans S.2.1 i n).1 = (S.2.1 i).2.2.1 + 1 from rfl]
  clear m w I J Ix dx dy cy bz c ex
  generalize fl_bi (fl_sq g (fl_vv g 64 n (S.2.1 i).1) (fl_vv g f n (S.2.1 i).2.1)) (fun o => g (72 + o)) (g 3) = BI at *
  generalize (S.2.1 i).2.2.1 = D at *
  rw [fbP_225_163]
  simp (disch := omega) only [gx.1, gx.2, gy.1, gy.2, fl_KM, fl_RM, fl_lit, fl_nadd, fl_nmul, fl_ndiv, fl_nsub, fl_msub, fl_nle, fl_nlt, fl_neq, fl_nclamp, fl_nin, fl_ltT, fl_ltF, fl_leT, fl_leF, fl_eqT, fl_eqF, decide_true, decide_false, Bool.true_and, Bool.and_true, Bool.false_and, Bool.and_false, if_true, if_false, Bool.false_eq_true, Option.isSome_some, Option.getD_some, not_true_eq_false, not_false_eq_true, Option.toList_some, Option.toList_none, List.cons_append, List.nil_append, nz, ey, fbP_225_172, c2, fbC_225_178]
theorem fr_225n (hg : fl_g k0 h) (m : fl_mm h g) (w : fl_wf g) (I : fl_rq h g S) (J : fl_J0 g S) {i f n : Nat} (hi : i < S.1) (hf : f < 2 * (g 0 + g 2)) (hn : n < 2 ^ g 1) (d6 : (S.2.1 i).2.2.1 < 6) (c : fl_sh g f (S.2.1 i) n = false) (J' : fl_J0 g (fl_rch g S (fl_nxe g f i (S.2.1 i) n))) : ∃ y, fl_Rn fl_C 225 53 [some (.ref 259), some (.int (Int32.ofNat f)), some (.int (Int32.ofNat i)), some (.int (Int32.ofNat n))] [] h = fl_Rn fl_C 225 53 [some (.ref 259), some (.int (Int32.ofNat f)), some (.int (Int32.ofNat i)), some (.int (Int32.ofNat (n + 1)))] [] y ∧ fl_df fl_scr h y ∧ fl_rq y g (fl_rch g S (fl_nxe g f i (S.2.1 i) n)) := by
  have w0 : g 0 ≤ 12 := w.1.2.2.2.1
  obtain ⟨x, ex, dx, rx⟩ := fr_225t hg m w I J hi hf hn d6
  have gx := fl_df_g hg dx
  have mx : fl_mm x g := fl_mm_df m dx (fun j => by omega)
  have Ix : fl_rq x g S := fl_rq_df I dx (by omega) (fun q j a b => by omega)
  have bz := fl_bi_0 (q := fl_sq g (fl_vv g 64 n (S.2.1 i).1) (fl_vv g f n (S.2.1 i).2.1)) (ln := fun o => g (72 + o)) (n := g 3) (fun o ho => by have := w.2.2.2.2.2.1 o ho; omega)
  have nz : (fl_bi (fl_sq g (fl_vv g 64 n (S.2.1 i).1) (fl_vv g f n (S.2.1 i).2.1)) (fun o => g (72 + o)) (g 3) = Int32.ofNat 0) = True := by
    rw [bz]
    exact eq_true c
  have s729 := fl_J_729 J
  have J3 := fl_J_729 J'
  have r := J.2.2.1 i hi
  have r1 : fl_r2 g (fl_nxe g f i (S.2.1 i) n).1 := fl_nx_r2 w r.1
  have r2 : fl_r2 g (fl_nxe g f i (S.2.1 i) n).2.1 := fl_nx_r2 w r.2
  have e220 := fr_220 (ρ := fl_nxt g f n (S.2.1 i).2.1) gx mx w (fun k hk _ => rx k hk)
  have lt := fl_rp_lt w r1 r2
  have e224 := fr_224 gx Ix s729 (fun k hk => fl_rp_lt w (J.2.2.1 k hk).1 (J.2.2.1 k hk).2) lt
  have eq : fl_any (fun k => decide (fl_rp g (S.2.1 k) = fl_rp g (fl_nxe g f i (S.2.1 i) n))) S.1 = true ↔ S.2.2 (fl_cpc g (fl_nxe g f i (S.2.1 i) n)) = true := by
    rw [fl_any_iff, J.2.1]
    constructor
    · rintro ⟨k, hk, q⟩
      exact ⟨k, hk, (fl_cp_rp w (J.2.2.1 k hk) ⟨r1, r2⟩).mpr (of_decide_eq_true q)⟩
    · rintro ⟨k, hk, q⟩
      exact ⟨k, hk, decide_eq_true ((fl_cp_rp w (J.2.2.1 k hk) ⟨r1, r2⟩).mp q)⟩
  have hrp : fl_rp g (fl_nxe g f i (S.2.1 i) n) = 27 * fl_cr g (fl_nxt g 64 n (S.2.1 i).1) + fl_cr g (fl_nxt g f n (S.2.1 i).2.1) := rfl
  have st : fl_Rn fl_C 225 53 [some (.ref 259), some (.int (Int32.ofNat f)), some (.int (Int32.ofNat i)), some (.int (Int32.ofNat n))] [] h = fl_ca fl_C 225 199 [some (.ref 259), some (.int (Int32.ofNat f)), some (.int (Int32.ofNat i)), some (.int (Int32.ofNat n)), none, some (.int (Int32.ofNat (fl_rp g (fl_nxe g f i (S.2.1 i) n))))] [] [] (some (some (some (.int (if fl_any (fun k => decide (fl_rp g (S.2.1 k) = fl_rp g (fl_nxe g f i (S.2.1 i) n))) S.1 = true then Int32.ofNat 1 else Int32.ofNat 0))), x)) := by
    rw [ex]
    rw [hrp] at e224 ⊢
    clear m w I J J' Ix dx bz c ex mx rx r r1 r2 lt eq hrp J3
    generalize fl_bi (fl_sq g (fl_vv g 64 n (S.2.1 i).1) (fl_vv g f n (S.2.1 i).2.1)) (fun o => g (72 + o)) (g 3) = BI at *
    generalize fl_any (fun k => decide (fl_rp g (S.2.1 k) = 27 * fl_cr g (fl_nxt g 64 n (S.2.1 i).1) + fl_cr g (fl_nxt g f n (S.2.1 i).2.1))) S.1 = AN at *
    generalize fl_cr g (fl_nxt g 64 n (S.2.1 i).1) = P3 at *
    generalize fl_cr g (fl_nxt g f n (S.2.1 i).2.1) = P4 at *
    rw [fbP_225_163]
    simp (disch := omega) only [gx.1, gx.2, fl_KM, fl_RM, fl_lit, fl_nadd, fl_nmul, fl_ndiv, fl_nsub, fl_msub, fl_nle, fl_nlt, fl_neq, fl_nclamp, fl_nin, fl_ltT, fl_ltF, fl_leT, fl_leF, fl_eqT, fl_eqF, decide_true, decide_false, Bool.true_and, Bool.and_true, Bool.false_and, Bool.and_false, if_true, if_false, Bool.false_eq_true, Option.isSome_some, Option.getD_some, not_true_eq_false, not_false_eq_true, Option.toList_some, Option.toList_none, List.cons_append, List.nil_append, nz, e220, fbP_225_190, e224]
  rw [st]
  clear st ex
  by_cases z : S.2.2 (fl_cpc g (fl_nxe g f i (S.2.1 i) n)) = true
  · rw [if_pos (eq.mpr z)]
    unfold fl_rch
    rw [if_pos z]
    refine ⟨x, ?_, fl_df_mo dx (fun q j z => by omega), Ix⟩
    have o : (Int32.ofNat 1 = Int32.ofNat 0) = False := eq_false (by decide)
    rw [fbP_225_199]
    simp (disch := omega) only [fl_lit, fl_nadd, fl_nmul, fl_ndiv, fl_nsub, fl_msub, fl_nle, fl_nlt, fl_neq, fl_nclamp, fl_nin, fl_ltT, fl_ltF, fl_leT, fl_leF, fl_eqT, fl_eqF, decide_true, decide_false, Bool.true_and, Bool.and_true, Bool.false_and, Bool.and_false, if_true, if_false, Bool.false_eq_true, Option.isSome_some, Option.getD_some, not_true_eq_false, not_false_eq_true, Option.toList_some, Option.toList_none, List.cons_append, List.nil_append, fbC_225_263]
  · rw [if_neg (fun q => z (eq.mp q))]
    unfold fl_rch at J3 ⊢
    rw [if_neg z] at J3 ⊢
    dsimp only at J3
    obtain ⟨y, ey, dy, iN, l7, l8, l9, l0⟩ := fr_225p (F := f) (B := n) (C := fl_rp g (fl_nxe g f i (S.2.1 i) n)) gx Ix.1 (by omega) (Ix.2 i hi).2.1 hi
    refine ⟨y, ey, fl_df_tr (fl_df_mo dx (fun q j z => by omega)) dy, iN, fun k hk => ?_⟩
    dsimp only at hk ⊢
    rw [l7, l8, l9, l0]
    by_cases q : k = S.1
    · subst q
      rw [fl_up_self, fl_up_self, fl_up_self, fl_up_self, fl_up_self]
      exact ⟨rfl, rfl, fun k1 => by omega, fun k1 => ⟨rfl, rfl⟩⟩
    · rw [fl_up_ne q, fl_up_ne q, fl_up_ne q, fl_up_ne q, fl_up_ne q]
      exact Ix.2 k (by omega)
abbrev fl_Lq (k0 : Nat → Nat × Nat) (g : Nat → Nat) (i : Nat) (S : fl_Se) (h : fl_H) : Prop := fl_g k0 h ∧ fl_mm h g ∧ fl_rq h g S ∧ fl_J0 g S ∧ fl_J1 S i
theorem fr_225i (w : fl_wf g) {f i : Nat} (hf : f < 2 * (g 0 + g 2)) {Q : Option Value → fl_H → Prop} : ∀ r n (S : fl_Se) (h : fl_H), fl_Lq k0 g i S h → i < S.1 → (S.2.1 i).2.2.1 < 6 → n + r = 2 ^ g 1 → (∀ S' y, fl_inn g f i r n S = .inl S' → fl_df fl_scr h y → fl_Lq k0 g i S' y → i < S'.1 → fl_to (fl_Rn fl_C 225 43 [some (.ref 259), some (.int (Int32.ofNat f)), some (.int (Int32.ofNat (i + 1)))] [] y) Q) → (∀ x y, fl_inn g f i r n S = .inr x → fl_df fl_scr h y → (∀ j, j < x.1 → fl_i y 281 j = Int32.ofNat (x.2 j)) → Q (some (.int (Int32.ofNat x.1))) y) → fl_to (fl_Rn fl_C 225 53 [some (.ref 259), some (.int (Int32.ofNat f)), some (.int (Int32.ofNat i)), some (.int (Int32.ofNat n))] [] h) Q
  | 0, n, S, h, P, hi, d6, hn, q1, q2 => by
    obtain ⟨hg, m, I, J, L⟩ := P
    have w4 : g 1 ≤ 4 := w.1.2.1
    have sh := fl_sh1 (g 1) (by omega)
    have p16 := fl_p2 w4
    have e129 := fr_129 hg m
    have q := q1 S h rfl fl_df_rfl ⟨hg, m, I, J, L⟩ hi
    have st : fl_Rn fl_C 225 53 [some (.ref 259), some (.int (Int32.ofNat f)), some (.int (Int32.ofNat i)), some (.int (Int32.ofNat n))] [] h = fl_Rn fl_C 225 43 [some (.ref 259), some (.int (Int32.ofNat f)), some (.int (Int32.ofNat (i + 1)))] [] h := by
      rw [show n = 2 ^ g 1 by omega]
      clear m w I J L q q1 q2
      generalize 2 ^ g 1 = E at *
      rw [fbC_225_53]
      simp (disch := omega) only [hg.1, fl_KM, fl_RM, fl_lit, fl_nadd, fl_nmul, fl_ndiv, fl_nsub, fl_msub, fl_nle, fl_nlt, fl_neq, fl_nclamp, fl_nin, fl_ltT, fl_ltF, fl_leT, fl_leF, fl_eqT, fl_eqF, decide_true, decide_false, Bool.true_and, Bool.and_true, Bool.false_and, Bool.and_false, if_true, if_false, Bool.false_eq_true, Option.isSome_some, Option.getD_some, not_true_eq_false, not_false_eq_true, Option.toList_some, Option.toList_none, List.cons_append, List.nil_append, e129, fbP_225_59, sh, fbC_225_269]
    rw [st]
    exact q
  | r + 1, n, S, h, P, hi, d6, hn, q1, q2 => by
    obtain ⟨hg, m, I, J, L⟩ := P
    have w4 : g 1 ≤ 4 := w.1.2.1
    have p16 := fl_p2 w4
    have Jn := fl_J0_rch w (f := f) J hi L (by omega) (n := n) (by omega)
    cases c : fl_sh g f (S.2.1 i) n with
    | true =>
      obtain ⟨y, ey, dy, cy⟩ := fr_225y hg m w I J hi hf (n := n) (by omega) d6 c
      rw [ey]
      exact fl_to_mk (q2 (fl_ans S.2.1 i n) y (by rw [fl_inn, if_pos c]) dy cy)
    | false =>
      obtain ⟨y, ey, dy, Iy⟩ := fr_225n hg m w I J hi hf (n := n) (by omega) d6 c Jn.1
      rw [ey]
      exact fr_225i w hf (Q := Q) r (n + 1) (fl_rch g S (fl_nxe g f i (S.2.1 i) n)) y ⟨fl_df_g hg dy, fl_mm_df m dy (fun j => by omega), Iy, Jn.1, Jn.2.1⟩ (by omega) (by rw [Jn.2.2.2 i hi]; exact d6) (by omega) (fun S' x e dx Px ix => q1 S' x (by rw [fl_inn, if_neg (by rw [c]; decide)]; exact e) (fl_df_tr dy dx) Px ix) (fun x z e dz cz => q2 x z (by rw [fl_inn, if_neg (by rw [c]; decide)]; exact e) (fl_df_tr dy dz) cz)
/-- behind six patterns nothing follows -/
theorem fr_225e (hg : fl_g k0 h) (m : fl_mm h g) (w : fl_wf g) (I : fl_rq h g S) (J : fl_J0 g S) {f i : Nat} (hd : ∀ k, i ≤ k → k < S.1 → 6 ≤ (S.2.1 k).2.2.1) (hi : i ≤ S.1) : fl_Rn fl_C 225 43 [some (.ref 259), some (.int (Int32.ofNat f)), some (.int (Int32.ofNat i))] [] h = some (some (some (.int (-Int32.ofNat 1))), h) := by
  have w4 : g 1 ≤ 4 := w.1.2.1
  have sh := fl_sh1 (g 1) (by omega)
  have p16 := fl_p2 w4
  have pp : 0 < 2 ^ g 1 := Nat.pow_pos (by decide)
  have s729 := fl_J_729 J
  have e129 := fr_129 hg m
  have i29 := I.1
  have lp := fl_iter (fun k => fl_Rn fl_C 225 43 [some (.ref 259), some (.int (Int32.ofNat f)), some (.int (Int32.ofNat (i + k)))] [] h) (S.1 - i) (by
    intro k hk
    try dsimp only
    have c := (I.2 (i + k) (by omega)).2.1
    have d6 := hd (i + k) (by omega) (by omega)
    have dl := J.2.2.2.2.2 (i + k) (by omega)
    have kl : i + k < S.1 := by omega
    clear m w I J hd
    rw [← Nat.add_assoc]
    generalize i + k = K at *
    generalize (S.2.1 K).2.2.1 = D at *
    generalize 2 ^ g 1 = E at *
    rw [fbC_225_43]
    simp (disch := omega) only [hg.1, hg.2, fl_KM, fl_RM, fl_lit, fl_nadd, fl_nmul, fl_ndiv, fl_nsub, fl_msub, fl_nle, fl_nlt, fl_neq, fl_nclamp, fl_nin, fl_ltT, fl_ltF, fl_leT, fl_leF, fl_eqT, fl_eqF, decide_true, decide_false, Bool.true_and, Bool.and_true, Bool.false_and, Bool.and_false, if_true, if_false, Bool.false_eq_true, Option.isSome_some, Option.getD_some, not_true_eq_false, not_false_eq_true, Option.toList_some, Option.toList_none, List.cons_append, List.nil_append, i29, fbC_225_53, e129, fbP_225_59, sh, c, fbC_225_69, fbC_225_269])
  rw [show i + (S.1 - i) = S.1 by omega] at lp
  refine lp.trans ?_
  clear m w I J hd lp
  rw [fbC_225_43]
  simp (disch := omega) only [hg.1, fl_KM, fl_RM, fl_lit, fl_nadd, fl_nmul, fl_ndiv, fl_nsub, fl_msub, fl_nle, fl_nlt, fl_neq, fl_nclamp, fl_nin, fl_ltT, fl_ltF, fl_leT, fl_leF, fl_eqT, fl_eqF, decide_true, decide_false, Bool.true_and, Bool.and_true, Bool.false_and, Bool.and_false, if_true, if_false, Bool.false_eq_true, Option.isSome_some, Option.getD_some, not_true_eq_false, not_false_eq_true, Option.toList_some, Option.toList_none, List.cons_append, List.nil_append, i29]
theorem fr_225o (w : fl_wf g) {f : Nat} (hf : f < 2 * (g 0 + g 2)) {Q : Option Value → fl_H → Prop} : ∀ r i (S : fl_Se) (h : fl_H), fl_Lq k0 g i S h → i ≤ S.1 → i + r = 729 → (∀ v y, fl_df fl_scr h y → fl_rz (fl_out g f r i S) v y → Q v y) → fl_to (fl_Rn fl_C 225 43 [some (.ref 259), some (.int (Int32.ofNat f)), some (.int (Int32.ofNat i))] [] h) Q
  | 0, i, S, h, P, hi, hr, q => by
    obtain ⟨hg, m, I, J, L⟩ := P
    have s729 := fl_J_729 J
    rw [fr_225e hg m w I J (fun k a b => by omega) hi]
    exact fl_to_mk (q _ h fl_df_rfl ⟨fun _ => rfl, fun x z => by cases z⟩)
  | r + 1, i, S, h, P, hi, hr, q => by
    obtain ⟨hg, m, I, J, L⟩ := P
    have s729 := fl_J_729 J
    by_cases c : i < S.1 ∧ (S.2.1 i).2.2.1 < 6
    · have i29 := I.1
      have st : fl_Rn fl_C 225 43 [some (.ref 259), some (.int (Int32.ofNat f)), some (.int (Int32.ofNat i))] [] h = fl_Rn fl_C 225 53 [some (.ref 259), some (.int (Int32.ofNat f)), some (.int (Int32.ofNat i)), some (.int (Int32.ofNat 0))] [] h := by
        have c1 := c.1
        clear m w I J L q c
        rw [fbC_225_43]
        simp (disch := omega) only [hg.1, fl_KM, fl_RM, fl_lit, fl_nadd, fl_nmul, fl_ndiv, fl_nsub, fl_msub, fl_nle, fl_nlt, fl_neq, fl_nclamp, fl_nin, fl_ltT, fl_ltF, fl_leT, fl_leF, fl_eqT, fl_eqF, decide_true, decide_false, Bool.true_and, Bool.and_true, Bool.false_and, Bool.and_false, if_true, if_false, Bool.false_eq_true, Option.isSome_some, Option.getD_some, not_true_eq_false, not_false_eq_true, Option.toList_some, Option.toList_none, List.cons_append, List.nil_append, i29]
      rw [st]
      refine fr_225i w hf (2 ^ g 1) 0 S h ⟨hg, m, I, J, L⟩ c.1 c.2 (by omega) (fun S' y e dy Py iy => ?_) (fun x y e dy cy => ?_)
      · refine fr_225o w hf r (i + 1) S' y ⟨Py.1, Py.2.1, Py.2.2.1, Py.2.2.2.1, fl_J1_up Py.2.2.2.1 iy Py.2.2.2.2⟩ iy (by omega) (fun v z dz F => q v z (fl_df_tr dy dz) ?_)
        have : fl_out g f (r + 1) i S = fl_out g f r (i + 1) S' := by rw [fl_out, if_pos c, e]
        rw [this]
        exact F
      · refine q _ y dy ?_
        have : fl_out g f (r + 1) i S = some x := by rw [fl_out, if_pos c, e]
        rw [this]
        exact ⟨fun z => (by cases z), fun x' z => (by cases z; exact ⟨rfl, cy⟩)⟩
    · have ou : fl_out g f (r + 1) i S = none := by rw [fl_out, if_neg c]
      rw [fr_225e hg m w I J (fun k a b => by
        have := J.2.2.2.2.1 i k a b
        by_cases z : (S.2.1 i).2.2.1 < 6
        · exact absurd ⟨by omega, z⟩ c
        · omega) hi]
      exact fl_to_mk (q _ h fl_df_rfl (by rw [ou]; exact ⟨fun _ => rfl, fun x z => by cases z⟩))
end
