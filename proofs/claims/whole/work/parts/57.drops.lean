/-! drops -/
theorem fl_d7_e {g : Nat → Nat} {b : Nat} : ∀ j, j ≠ 77 → fl_up g 77 b j = g j := fun _ hj => fl_up_ne hj
theorem fl_d7_wf {g : Nat → Nat} {b : Nat} (w : fl_wf g) (hb : b ≤ 1) : fl_wf (fl_up g 77 b) := by
  have e : ∀ j, j ≠ 77 → fl_up g 77 b j = g j := fun _ hj => fl_up_ne hj
  have w1 := w.1
  refine ⟨?_, ?_, ?_, ?_, ?_, ?_, ?_, ?_, ?_, ?_, ?_, ?_, ?_, ?_⟩
  · rw [e 0 (by omega), e 1 (by omega), e 2 (by omega), e 3 (by omega), e 76 (by omega), fl_up_self]; omega
  · rw [e 1 (by omega)]
    intro k hk
    rw [e (4 + k) (by omega), e (16 + k) (by omega), e (28 + k) (by omega), e (40 + k) (by omega)]
    exact w.2.1 k hk
  · rw [e 1 (by omega), e 0 (by omega), e 2 (by omega)]
    intro k hk hk2
    rw [e (4 + k) (by omega), e (16 + k) (by omega), e (28 + k) (by omega), e (40 + k) (by omega)]
    exact w.2.2.1 k hk hk2
  · rw [e 1 (by omega), e 0 (by omega)]
    intro k i hk hk2 h8 hi
    have wk := w.2.2.1 k hk hk2
    rw [e (28 + k) (by omega)] at hi
    rw [e (4 + k) (by omega)] at h8
    rw [e (16 + k) (by omega), e _ (by omega)]
    exact w.2.2.2.1 k i hk hk2 h8 hi
  · rw [e 0 (by omega), e 2 (by omega)]
    intro p hp; rw [e _ (by omega)]; exact w.2.2.2.2.1 p hp
  · rw [e 0 (by omega), e 3 (by omega)]
    intro j hj; rw [e _ (by omega)]; exact w.2.2.2.2.2.1 j hj
  · rw [e 3 (by omega)]
    intro i j hij hj; rw [e _ (by omega), e _ (by omega)]; exact w.2.2.2.2.2.2.1 i j hij hj
  · rw [e 76 (by omega)]
    intro t ht; rw [e _ (by omega), e _ (by omega), e 1 (by omega)]; exact w.2.2.2.2.2.2.2.1 t ht
  · intro j hj
    have := w.2.2.2.2.2.2.2.2.1 j hj
    unfold fl_up
    split <;> omega
  · rw [e 1 (by omega), e 0 (by omega)]
    intro hh; rw [e _ (by omega)]; exact w.2.2.2.2.2.2.2.2.2.1 hh
  · rw [e 1 (by omega), e 0 (by omega)]
    intro k hk hk2; rw [e _ (by omega), e _ (by omega), e _ (by omega)]; exact w.2.2.2.2.2.2.2.2.2.2.1 k hk hk2
  · rw [e 1 (by omega), e 0 (by omega), e 2 (by omega)]
    intro hh; rw [e _ (by omega), e _ (by omega)]; exact w.2.2.2.2.2.2.2.2.2.2.2.1 hh
  · rw [e 1 (by omega), e 0 (by omega), e 2 (by omega)]
    exact w.2.2.2.2.2.2.2.2.2.2.2.2.1
  · rw [e 0 (by omega), show fl_cnt (fun k => decide (fl_up g 77 b (4 + k) = 8)) (g 0) = fl_cnt (fun k => decide (g (4 + k) = 8)) (g 0) from fl_cnt_congr fun k hk => by rw [e _ (by omega)]]
    exact w.2.2.2.2.2.2.2.2.2.2.2.2.2
section
variable {g : Nat → Nat} {b : Nat}
theorem fl_d7_ps {t : Nat} : fl_ps (fl_up g 77 b) t = fl_ps g t := fl_up_ne (by omega)
theorem fl_d7_vl (w : fl_wf g) {f t : Nat} : fl_vl (fl_up g 77 b) f (fl_ps (fl_up g 77 b)) t = fl_vl g f (fl_ps g) t := fl_vl_cg w (fun j hj => fl_d7_e j (by omega)) (fun _ _ => fl_d7_ps)
theorem fl_d7_hd (w : fl_wf g) {f t k : Nat} (hk : k < g 0) : fl_hd (fl_up g 77 b) f (fl_ps (fl_up g 77 b)) t k = fl_hd g f (fl_ps g) t k := fl_hd_cg w (fun j hj => fl_d7_e j (by omega)) t (fun _ _ => fl_d7_ps) k hk
theorem fl_d7_shn (w : fl_wf g) {f : Nat} : fl_shn (fl_up g 77 b) f (fl_ps (fl_up g 77 b)) = fl_shn g f (fl_ps g) := by
  funext t
  exact fl_shn_cg w (fun j hj => fl_d7_e j (by omega)) (fun _ _ => fl_d7_ps)
theorem fl_d7_dr (w : fl_wf g) {f : Nat} : fl_dr (fl_up g 77 b) f (fl_ps (fl_up g 77 b)) = fl_dr g f (fl_ps g) := by
  funext t
  unfold fl_dr
  rw [fl_d7_shn w, fl_d7_e (102 + t) (by omega)]
theorem fl_d7_shl (w : fl_wf g) {f t : Nat} : fl_shl (fl_up g 77 b) f (fl_ps (fl_up g 77 b)) t = fl_shl g f (fl_ps g) t := by
  have w1 := w.1
  unfold fl_shl
  rw [fl_d7_e 3 (by omega), fl_d7_vl w, fl_d7_vl w]
  exact fl_bo_congr fun j hj => by rw [fl_sq_cg (g := g) (fun j hj => fl_d7_e j (by omega)) (by omega), fl_d7_e (72 + j) (by omega)]
theorem fl_d7_cvn (w : fl_wf g) {c : Nat} : fl_cvn (fl_up g 77 b) c = fl_cvn g c := by
  unfold fl_cvn fl_fvl fl_aw
  rw [fl_d7_e 0 (by omega), fl_d7_e 2 (by omega), fl_d7_e 76 (by omega), fl_d7_vl w, fl_d7_vl w, fl_d7_dr w]
theorem fl_d7_chn (w : fl_wf g) {c k : Nat} (hk : k < g 0) : fl_chn (fl_up g 77 b) c k = fl_chn g c k := by
  unfold fl_chn fl_fhd
  rw [fl_d7_e 0 (by omega), fl_d7_e 2 (by omega), fl_d7_e 76 (by omega), fl_d7_dr w]
  repeat' split
  all_goals exact fl_d7_hd w hk
theorem fl_d7_rn {h : fl_H} {r : Nat} {s : Int64} (w : fl_wf g) (d : fl_rn h r g s) : fl_rn (fl_wi h r (fl_up (fl_i h r) 4 (Int32.ofNat b))) r (fl_up g 77 b) s := by
  have e0 : fl_up g 77 b 0 = g 0 := fl_d7_e 0 (by omega)
  have e2 : fl_up g 77 b 2 = g 2 := fl_d7_e 2 (by omega)
  have e76 : fl_up g 77 b 76 = g 76 := fl_d7_e 76 (by omega)
  refine ⟨fl_net_cg (g' := fl_up g 77 b) w (fun j hj => fl_d7_e j (by omega)) (fl_net_fr d.1 (by rw [fl_i_wi, if_neg (by omega)]) (fun q _ _ => by rw [fl_l_wi])), ⟨?_, ?_⟩, ⟨?_, ?_, ?_⟩, ?_, ?_, ?_, ?_⟩
  · rw [fl_i_wi, if_pos rfl, fl_up_ne (by omega), e76]; exact d.2.1.1
  · rw [fl_i_wi, if_pos rfl, fl_up_self, fl_up_self]
  · rw [fl_l_wi, e0, e2, e76, d.2.2.1.1]
    exact fl_B_congr fun c _ => by rw [fl_d7_shn w]
  · rw [fl_l_wi, e0, e2, e76, d.2.2.1.2.1]
    exact fl_B_congr fun c _ => by rw [fl_d7_dr w]
  · rw [fl_l_wi, e0, e2]; exact d.2.2.1.2.2
  · rw [e76, fl_l_wi]
    intro t ht; rw [fl_d7_e _ (by omega)]; exact d.2.2.2.1 t ht
  · rw [e0, e2, e76, fl_l_wi]
    intro f hf hs
    rw [fl_d7_shn w] at hs ⊢
    rw [fl_d7_shl w]
    exact d.2.2.2.2.1 f hf hs
  · rw [e0, e76, fl_l_wi]
    intro hn k hk
    have := d.2.2.2.2.2.1 hn k hk
    refine ⟨⟨?_, ?_⟩, ?_, ?_⟩
    · rw [fl_d7_vl w]; exact this.1.1
    · rw [fl_d7_vl w]; exact this.1.2
    · rw [this.2.1]; exact fl_B_congr fun c _ => by rw [fl_d7_cvn w]
    · rw [this.2.2]; exact fl_B_congr fun c _ => by rw [fl_d7_cvn w]
  · rw [e0, e76, fl_l_wi]
    intro k hk h8
    rw [fl_d7_e _ (by omega)] at h8
    have := d.2.2.2.2.2.2 k hk h8
    refine ⟨⟨?_, ?_⟩, ?_, ?_⟩
    · rw [fl_d7_hd w hk]; exact this.1.1
    · rw [fl_d7_hd w hk]; exact this.1.2
    · rw [this.2.1]; exact fl_B_congr fun c _ => by rw [fl_d7_chn w hk]
    · rw [this.2.2]; exact fl_B_congr fun c _ => by rw [fl_d7_chn w hk]
end
section
variable {k0 : Nat → Nat × Nat} {h h' : fl_H} {c : Nat × Nat × Nat × Bool}
theorem fl_ne01 {a b : Nat} (ha : a ≤ 1) (hb : b ≤ 1) : (Int32.ofNat a = Int32.ofNat b) ↔ a = b := by
  rcases (show a = 0 ∨ a = 1 by omega) with e | e <;> rcases (show b = 0 ∨ b = 1 by omega) with e' | e' <;> subst e <;> subst e' <;> decide
theorem fo_drops_a {g : Nat → Nat} {s : Int64} (hg : fl_g k0 h) (w : fl_wf g) (d : fl_rn h 27 g s) (p : Int32) : fl_cl fl_C 154 [.ref 0, .int p] h = some (some (some (.int (if fl_in p 2 = true then (if g 77 = p.toNatClampNeg then -Int32.ofNat 2 else Int32.ofNat (fl_cnt (fl_hb (fl_l h 27 6)) 64)) else -Int32.ofNat 1))), if fl_in p 2 = true ∧ g 77 ≠ p.toNatClampNeg then fl_wi h 27 (fl_up (fl_i h 27) 4 p) else h) := by
  have w7 : g 77 ≤ 1 := w.1.2.2.2.2.2.2.2.2
  have O := fl_o27 (k0 := k0)
  have o27 : fl_KK k0 27 = (1, 7) := O.1.1
  have i4 := d.2.1.2
  have b := fun p => fc_126 (h := fl_wi h 27 (fl_up (fl_i h 27) 4 p)) (fl_l h 27 6)
  clear w d O
  by_cases c0 : fl_in p 2 = true
  · rw [if_pos c0]
    obtain ⟨k, hk, rfl⟩ := fl_in_ex c0
    rw [fl_nclamp (show k < 2147483648 by omega)]
    have bk := b (Int32.ofNat k)
    clear b
    by_cases z : g 77 = k
    · rw [if_pos z, if_neg (fun y => y.2 z)]
      rw [z] at i4
      clear bk
      rw [fbE_154]
      rcases (show k = 0 ∨ k = 1 by omega) with e | e <;> subst e <;> simp (disch := omega) only [hg.1, hg.2, fl_KF, fl_RF, o27, fl_lit, fl_nadd, fl_nmul, fl_ndiv, fl_nsub, fl_msub, fl_nle, fl_nlt, fl_neq, fl_nclamp, fl_nin, fl_ltT, fl_ltF, fl_leT, fl_leF, fl_eqT, fl_eqF, decide_true, decide_false, Bool.true_and, Bool.and_true, Bool.false_and, Bool.and_false, if_true, if_false, Bool.false_eq_true, Option.isSome_some, Option.getD_some, not_true_eq_false, not_false_eq_true, Option.toList_some, Option.toList_none, List.cons_append, List.nil_append, i4]
    · rw [if_neg z, if_pos ⟨c0, z⟩]
      rw [fbE_154]
      rcases (show (k = 0 ∧ g 77 = 1) ∨ (k = 1 ∧ g 77 = 0) by omega) with ⟨e, e'⟩ | ⟨e, e'⟩ <;> subst e <;> rw [e'] at i4 <;> simp (disch := omega) only [fl_k_wl, fl_r_wl, fl_i_wl, fl_l_wl, fl_1_wl, fl_k_wi, fl_r_wi, fl_l_wi, fl_1_wi, fl_i_wi, fl_k_si, fl_r_si, fl_l_si, fl_k_sl, fl_r_sl, fl_i_sl, fl_up_self, fl_up_ne, fl_si_wi, fl_sl_wl, fl_wi_wi, fl_wl_wl, hg.1, hg.2, fl_KF, fl_RF, o27, fl_lit, fl_nadd, fl_nmul, fl_ndiv, fl_nsub, fl_msub, fl_nle, fl_nlt, fl_neq, fl_nclamp, fl_nin, fl_ltT, fl_ltF, fl_leT, fl_leF, fl_eqT, fl_eqF, decide_true, decide_false, Bool.true_and, Bool.and_true, Bool.false_and, Bool.and_false, if_true, if_false, Bool.false_eq_true, Option.isSome_some, Option.getD_some, not_true_eq_false, not_false_eq_true, Option.toList_some, Option.toList_none, List.cons_append, List.nil_append, i4, fl_bT, fl_bF, fbC_154_51, bk, fbP_154_61]
  · rw [if_neg c0, if_neg (fun z => c0 z.1), fbE_154]
    clear b
    by_cases l : p < 0
    · rw [fl_ifd l, fbC_154_9]; rfl
    · have l2 : ¬ p ≤ Int32.ofNat 1 := fun z => c0 (fl_in_iff.mpr ⟨l, by
        have h3 := fl_i32_nat l
        rw [Int32.le_iff_toInt_le, fl_toI (by omega)] at z
        omega⟩)
      rw [fl_ifn l]
      simp (disch := omega) only [fl_lit, fl_nadd, fl_nmul, fl_ndiv, fl_nsub, fl_msub, fl_nle, fl_nlt, fl_neq, fl_nclamp, fl_nin, fl_ltT, fl_ltF, fl_leT, fl_leF, fl_eqT, fl_eqF, decide_true, decide_false, Bool.true_and, Bool.and_true, Bool.false_and, Bool.and_false, if_true, if_false, Bool.false_eq_true, Option.isSome_some, Option.getD_some, not_true_eq_false, not_false_eq_true, Option.toList_some, Option.toList_none, List.cons_append, List.nil_append, eq_false l2, fbC_154_9]
/-- dropping is set in both -/
def fl_dz (h : fl_H) (b : Nat) : fl_H := fl_wi (fl_wi (fl_wi h 27 (fl_up (fl_i h 27) 4 (Int32.ofNat b))) 259 (fl_up (fl_i h 259) 0 (Int32.ofNat 0))) 262 (fl_up (fl_i h 262) 77 (Int32.ofNat b))
theorem fl_dz_i {b q : Nat} (h1 : q ≠ 27) (h2 : q ≠ 259) (h3 : q ≠ 262) : fl_i (fl_dz h b) q = fl_i h q := by unfold fl_dz; rw [fl_i_wi, if_neg h3, fl_i_wi, if_neg h2, fl_i_wi, if_neg h1]
theorem fl_dz_259 {b j : Nat} (hj : j ≠ 0) : fl_i (fl_dz h b) 259 j = fl_i h 259 j := by unfold fl_dz; rw [fl_i_wi, if_neg (by omega), fl_i_wi, if_pos rfl, fl_up_ne hj]
theorem fl_dz_262 {b : Nat} : fl_i (fl_dz h b) 262 = fl_up (fl_i h 262) 77 (Int32.ofNat b) := by unfold fl_dz; rw [fl_i_wi, if_pos rfl]
theorem fl_dz_27 {b : Nat} : fl_i (fl_dz h b) 27 = fl_up (fl_i h 27) 4 (Int32.ofNat b) := by unfold fl_dz; rw [fl_i_wi, if_neg (by omega), fl_i_wi, if_neg (by omega), fl_i_wi, if_pos rfl]
theorem fl_dz_l {b : Nat} : fl_l (fl_dz h b) = fl_l h := by unfold fl_dz; rw [fl_l_wi, fl_l_wi, fl_l_wi]
theorem fl_dz_1 {b : Nat} : (fl_dz h b).1 = h.1 := by unfold fl_dz; rw [fl_1_wi, fl_1_wi, fl_1_wi]
theorem fl_dz_g {b : Nat} (hg : fl_g k0 h) : fl_g k0 (fl_dz h b) := ⟨by unfold fl_dz; rw [fl_k_wi, fl_k_wi, fl_k_wi]; exact hg.1, by unfold fl_dz; rw [fl_r_wi, fl_r_wi, fl_r_wi]; exact hg.2⟩
theorem fl_dz_mm {g : Nat → Nat} {b : Nat} (m : fl_mm h g) : fl_mm (fl_dz h b) (fl_up g 77 b) := fun j hj => by
  rw [fl_dz_262]
  by_cases e : j = 77
  · subst e; rw [fl_up_self, fl_up_self]
  · rw [fl_up_ne e, fl_up_ne e]; exact m j hj
theorem fl_Inv_dz {g g1 g2 : Nat → Nat} {b1 b2 : Bool} {s s1 s2 : Int64} {b : Nat} (I : fl_Inv k0 c h) (iG : fl_iG h g g1 g2 b1 b2 s s1 s2) (hb : b ≤ 1) : fl_Inv k0 c (fl_dz h b) := by
  obtain ⟨hg, hc, ⟨tn, tx, iT⟩, ⟨rn, rw0, iO⟩, ⟨cn, ck, cm, iC⟩, _⟩ := I
  have ei : ∀ q, q ≠ 27 → q ≠ 259 → q ≠ 262 → fl_i (fl_dz h b) q = fl_i h q := fun q h1 h2 h3 => fl_dz_i h1 h2 h3
  have el : ∀ q, fl_l (fl_dz h b) q = fl_l h q := fun q => by rw [fl_dz_l]
  have T1 : fl_iT (fl_dz h b) tn tx := fl_iT_fr iT (fl_dz_259 (by omega)) (ei 261 (by omega) (by omega) (by omega)) (ei 1 (by omega) (by omega) (by omega)) (el 3)
  have O1 : fl_iO (fl_dz h b) rn rw0 := fl_iO_fr iO (fl_dz_259 (by omega)) (el 260) (ei 4 (by omega) (by omega) (by omega)) (el 6)
  have K1 : fl_iC (fl_dz h b) cn ck cm := fl_iC_fr iC (fl_dz_259 (by omega)) (ei 264 (by omega) (by omega) (by omega)) (ei 265 (by omega) (by omega) (by omega)) (ei 21 (by omega) (by omega) (by omega)) (ei 24 (by omega) (by omega) (by omega)) (el 23) (el 26)
  have R1 : fl_rn (fl_dz h b) 27 (fl_up g 77 b) s := fl_rn_fr (fl_d7_rn (b := b) iG.1 iG.2.2.2.1) (fun q h1 h2 => ⟨by
    by_cases e : q = 27
    · subst e; rw [fl_dz_27, fl_i_wi, if_pos rfl]
    · rw [ei q e (by omega) (by omega), fl_i_wi, if_neg e], by rw [el, fl_l_wi]⟩)
  refine ⟨fl_dz_g hg, fl_dz_1.trans hc, ⟨tn, tx, T1⟩, ⟨rn, rw0, O1⟩, ⟨cn, ck, cm, K1⟩, fl_up g 77 b, g1, g2, b1, b2, s, s1, s2, fl_d7_wf iG.1 hb, fl_dz_mm iG.2.1, by rw [el]; exact iG.2.2.1, R1, ⟨by rw [ei 0 (by omega) (by omega) (by omega)]; exact iG.2.2.2.2.1.1, by rw [ei 283 (by omega) (by omega) (by omega)]; exact iG.2.2.2.2.1.2.1, fun z => ?_⟩, ⟨by rw [ei 0 (by omega) (by omega) (by omega)]; exact iG.2.2.2.2.2.1, by rw [ei 283 (by omega) (by omega) (by omega)]; exact iG.2.2.2.2.2.2.1, fun z => ?_⟩⟩
  · have y := iG.2.2.2.2.1.2.2 z
    exact ⟨y.1, fun j hj => by rw [fl_dz_262, fl_up_ne (by omega)]; exact y.2.1 j hj, by rw [el]; exact y.2.2.1, fl_rn_fr y.2.2.2 (fun q h1 h2 => ⟨ei q (by omega) (by omega) (by omega), el q⟩)⟩
  · have y := iG.2.2.2.2.2.2.2 z
    exact ⟨y.1, fun j hj => by rw [fl_dz_262, fl_up_ne (by omega)]; exact y.2.1 j hj, by rw [el]; exact y.2.2.1, fl_rn_fr y.2.2.2 (fun q h1 h2 => ⟨ei q (by omega) (by omega) (by omega), el q⟩)⟩
/-- the reference: refused -/
theorem fo_drops_bn {g : Nat → Nat} (hg : fl_g k0 h) (m : fl_mm h g) (w : fl_wf g) {p : Int32} (hn : ¬ (fl_in p 2 = true ∧ g 77 ≠ p.toNatClampNeg)) : fl_cl fl_C 156 [.ref 259, .int p] h = some (some (some (.int (if fl_in p 2 = true then -Int32.ofNat 2 else -Int32.ofNat 1))), fl_wi h 259 (fl_up (fl_i h 259) 0 (Int32.ofNat 0))) := by
  have ew : (0 ≤ Int32.toInt64 p ∧ Int32.toInt64 p ≤ 1) ↔ fl_in p 2 = true := fl_in64n (n := 1) (by omega) p
  have e37 := fr_37 (h := fl_wi h 259 (fl_up (fl_i h 259) 0 (Int32.ofNat 0))) (Int32.toInt64 p) 0 1
  have m77 := m 77 (by omega)
  clear m w
  by_cases c0 : fl_in p 2 = true
  · rw [if_pos (ew.mpr c0)] at e37
    rw [if_pos c0]
    obtain ⟨k, hk, rfl⟩ := fl_in_ex c0
    rw [fl_nclamp (show k < 2147483648 by omega)] at hn
    have z : g 77 = k := by
      by_cases z : g 77 = k
      · exact z
      · exact absurd ⟨c0, z⟩ hn
    rw [z] at m77
    clear hn
    rw [fbE_156]
    simp (disch := omega) only [fl_k_wl, fl_r_wl, fl_i_wl, fl_l_wl, fl_1_wl, fl_k_wi, fl_r_wi, fl_l_wi, fl_1_wi, fl_i_wi, fl_k_si, fl_r_si, fl_l_si, fl_k_sl, fl_r_sl, fl_i_sl, fl_up_self, fl_up_ne, fl_si_wi, fl_sl_wl, fl_wi_wi, fl_wl_wl, hg.1, hg.2, fl_KM, fl_RM, fl_lit, fl_nadd, fl_nmul, fl_ndiv, fl_nsub, fl_msub, fl_nle, fl_nlt, fl_neq, fl_nclamp, fl_nin, fl_ltT, fl_ltF, fl_leT, fl_leF, fl_eqT, fl_eqF, decide_true, decide_false, Bool.true_and, Bool.and_true, Bool.false_and, Bool.and_false, if_true, if_false, Bool.false_eq_true, Option.isSome_some, Option.getD_some, not_true_eq_false, not_false_eq_true, Option.toList_some, Option.toList_none, List.cons_append, List.nil_append, fbC_156_5, e37, fbP_156_12, m77]
  · rw [if_neg (fun z => c0 (ew.mp z))] at e37
    rw [if_neg c0, fbE_156]
    simp (disch := omega) only [fl_k_wl, fl_r_wl, fl_i_wl, fl_l_wl, fl_1_wl, fl_k_wi, fl_r_wi, fl_l_wi, fl_1_wi, fl_i_wi, fl_k_si, fl_r_si, fl_l_si, fl_k_sl, fl_r_sl, fl_i_sl, fl_up_self, fl_up_ne, fl_si_wi, fl_sl_wl, fl_wi_wi, fl_wl_wl, hg.1, hg.2, fl_KM, fl_RM, fl_lit, fl_nadd, fl_nmul, fl_ndiv, fl_nsub, fl_msub, fl_nle, fl_nlt, fl_neq, fl_nclamp, fl_nin, fl_ltT, fl_ltF, fl_leT, fl_leF, fl_eqT, fl_eqF, decide_true, decide_false, Bool.true_and, Bool.and_true, Bool.false_and, Bool.and_false, if_true, if_false, Bool.false_eq_true, Option.isSome_some, Option.getD_some, not_true_eq_false, not_false_eq_true, Option.toList_some, Option.toList_none, List.cons_append, List.nil_append, fbC_156_5, e37, fbP_156_12]
theorem fo_drops_b {g : Nat → Nat} (hg : fl_g k0 h) (m : fl_mm h g) (w : fl_wf g) {k : Nat} (hk : k < 2) (hn : g 77 ≠ k) {H : fl_H} (eH : H = fl_wi (fl_wi h 259 (fl_up (fl_i h 259) 0 (Int32.ofNat 0))) 262 (fl_up (fl_i h 262) 77 (Int32.ofNat k))) (mH : fl_mm H (fl_up g 77 k)) : ∃ y, fl_cl fl_C 156 [.ref 259, .int (Int32.ofNat k)] h = some (some (some (.int (Int32.ofNat (fl_cnt (fl_hb (fl_bs (fun f => fl_any (fl_dr g f (fl_ps g)) (g 76)) (2 * (g 0 + g 2)))) 64)))), y) ∧ fl_qt H y := by
  have w7 : g 77 ≤ 1 := w.1.2.2.2.2.2.2.2.2
  have w6 : g 76 ≤ 24 := w.1.2.2.2.2.2.2.2.1
  have ew : (0 ≤ Int32.toInt64 (Int32.ofNat k) ∧ Int32.toInt64 (Int32.ofNat k) ≤ 1) ↔ fl_in (Int32.ofNat k) 2 = true := fl_in64n (n := 1) (by omega) (Int32.ofNat k)
  have e37 := fr_37 (h := fl_wi h 259 (fl_up (fl_i h 259) 0 (Int32.ofNat 0))) (Int32.toInt64 (Int32.ofNat k)) 0 1
  rw [if_pos (ew.mpr (by rw [fl_nin (by omega)]; exact decide_eq_true hk))] at e37
  have m77 := m 77 (by omega)
  have hgH : fl_g k0 H := ⟨by rw [eH, fl_k_wi, fl_k_wi]; exact hg.1, by rw [eH, fl_r_wi, fl_r_wi]; exact hg.2⟩
  have w' := fl_d7_wf (b := k) w (by omega)
  obtain ⟨r, y, e141, rfl, ay⟩ := fr_141 hgH mH w'
  have qy := fl_qt_all ay
  have gy := fl_qo_g hgH (fl_qt_qo qy)
  have my := fl_qo_mm mH (fl_qt_qo qy)
  have rf := ay.2.2.2.2
  have e155 := fr_155 gy my w' (q := fun f => fl_any (fl_dr g f (fl_ps g)) (g 76)) (t := fun f => fl_frst (fl_dr g f (fl_ps g)) (g 76)) (fun f => by have := fl_frst_le (q := fl_dr g f (fl_ps g)) (g 76); omega) (fun f hf => by
    have : fl_i y 273 f = fl_oi (fl_any (fl_dr (fl_up g 77 k) f (fl_ps (fl_up g 77 k))) (fl_up g 77 k 76)) (fl_frst (fl_dr (fl_up g 77 k) f (fl_ps (fl_up g 77 k))) (fl_up g 77 k 76)) := (rf f hf).2.2.1
    rw [fl_d7_dr w, fl_d7_e 76 (by omega)] at this
    exact this)
  rw [fl_d7_e 0 (by omega), fl_d7_e 2 (by omega)] at e155
  have b := fr_144 (h := y) (fl_bs (fun f => fl_any (fl_dr g f (fl_ps g)) (g 76)) (2 * (g 0 + g 2)))
  have h39 : fl_Rn fl_C 156 39 [some (.ref 259)] [] H = some (some (some (.int (Int32.ofNat (fl_cnt (fl_hb (fl_bs (fun f => fl_any (fl_dr g f (fl_ps g)) (g 76)) (2 * (g 0 + g 2)))) 64)))), y) := by
    clear m w w' ay my rf mH qy
    rw [fbC_156_39]
    simp (disch := omega) only [hgH.1, gy.1, fl_KM, fl_RM, fl_lit, fl_nadd, fl_nmul, fl_ndiv, fl_nsub, fl_msub, fl_nle, fl_nlt, fl_neq, fl_nclamp, fl_nin, fl_ltT, fl_ltF, fl_leT, fl_leF, fl_eqT, fl_eqF, decide_true, decide_false, Bool.true_and, Bool.and_true, Bool.false_and, Bool.and_false, if_true, if_false, Bool.false_eq_true, Option.isSome_some, Option.getD_some, not_true_eq_false, not_false_eq_true, Option.toList_some, Option.toList_none, List.cons_append, List.nil_append, e141, fbP_156_43, e155, fbP_156_47, b, fbP_156_50]
  refine ⟨y, ?_, qy⟩
  clear m w w' ay my rf mH qy e155 b e141
  rw [eH] at h39
  rw [fbE_156]
  simp (disch := omega) only [fl_k_wl, fl_r_wl, fl_i_wl, fl_l_wl, fl_1_wl, fl_k_wi, fl_r_wi, fl_l_wi, fl_1_wi, fl_i_wi, fl_k_si, fl_r_si, fl_l_si, fl_k_sl, fl_r_sl, fl_i_sl, fl_up_self, fl_up_ne, fl_si_wi, fl_sl_wl, fl_wi_wi, fl_wl_wl, hg.1, hg.2, fl_KM, fl_RM, fl_lit, fl_nadd, fl_nmul, fl_ndiv, fl_nsub, fl_msub, fl_nle, fl_nlt, fl_neq, fl_nclamp, fl_nin, fl_ltT, fl_ltF, fl_leT, fl_leF, fl_eqT, fl_eqF, decide_true, decide_false, Bool.true_and, Bool.and_true, Bool.false_and, Bool.and_false, if_true, if_false, Bool.false_eq_true, Option.isSome_some, Option.getD_some, not_true_eq_false, not_false_eq_true, Option.toList_some, Option.toList_none, List.cons_append, List.nil_append, fbC_156_5, e37, fbP_156_12, m77, h39]
theorem fo_drops (I : fl_Inv k0 c h) (p : Int32) : fl_both k0 c 154 156 [.int p] [.int p] h := by
  obtain ⟨g, g1, g2, b1, b2, s, s1, s2, iG⟩ := I.2.2.2.2.2
  have a := fo_drops_a I.1 iG.1 iG.2.2.2.1 p
  by_cases c0 : fl_in p 2 = true ∧ g 77 ≠ p.toNatClampNeg
  · rw [if_pos c0, if_pos c0.1, if_neg c0.2] at a
    obtain ⟨k, hk, rfl⟩ := fl_in_ex c0.1
    rw [fl_nclamp (show k < 2147483648 by omega)] at c0
    have G1 : fl_g k0 (fl_wi h 27 (fl_up (fl_i h 27) 4 (Int32.ofNat k))) := ⟨by rw [fl_k_wi]; exact I.1.1, by rw [fl_r_wi]; exact I.1.2⟩
    have w0 : g 0 ≤ 12 := iG.1.1.2.2.2.1
    have w2 : g 2 ≤ 20 := iG.1.1.2.2.2.2.1
    obtain ⟨y, b, q⟩ := fo_drops_b (H := fl_dz h k) G1 (show fl_mm _ g from fun j hj => by rw [fl_i_wi, if_neg (by omega)]; exact iG.2.1 j hj) iG.1 hk c0.2 (by unfold fl_dz; rw [fl_i_wi 259, if_neg (by omega), fl_i_wi 262, if_neg (by omega)]) (fl_dz_mm iG.2.1)
    rw [iG.2.2.2.1.2.2.1.2.1, ← fl_bs_F (by omega)] at a
    exact ⟨_, _, _, a, b, fl_Inv_qt (fl_Inv_dz I iG (by omega)) q⟩
  · rw [if_neg c0] at a
    have b := fo_drops_bn I.1 iG.2.1 iG.1 c0
    refine ⟨_, _, _, a, ?_, fl_Inv_qt I (fl_qt_0 (x := Int32.ofNat 0))⟩
    rw [b]
    by_cases z : fl_in p 2 = true
    · rw [if_pos z, if_pos z]
      have : g 77 = p.toNatClampNeg := by
        by_cases y : g 77 = p.toNatClampNeg
        · exact y
        · exact absurd ⟨z, y⟩ c0
      rw [if_pos this]
    · rw [if_neg z, if_neg z]
end
