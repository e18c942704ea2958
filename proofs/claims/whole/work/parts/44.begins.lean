/-! begins -/
section
variable {k0 : Nat → Nat × Nat} {h : fl_H} {c : Nat × Nat × Nat × Bool}
theorem fo_begins_a {g : Nat → Nat} {s : Int64} (hg : fl_g k0 h) (w : fl_wf g) (d : fl_rn h 27 g s) : fl_cl fl_C 152 [.ref 0] h = some (some (some (.int (Int32.ofNat (g 76)))), fl_rs h 27 (fl_up g 76 0)) := by
  have w' := fl_wf_76 w
  have lt : ∀ j, j < 76 → fl_up g 76 0 j = g j := fun j hj => fl_up_ne (by omega)
  have d' : fl_net h (27 + 1) (fl_up g 76 0) := fl_net_cg w lt d.1
  have e28 := fc_28 hg fl_o27 w' d'
  have i27 : fl_i h 27 3 = Int32.ofNat (g 76) := d.2.1.1
  have o27 : fl_KK k0 27 = (1, 7) := fl_o27.1.1
  generalize fl_rs h 27 (fl_up g 76 0) = H at e28 ⊢
  rw [fbE_152]
  clear w d w' d' lt
  simp (disch := omega) only [hg.1, hg.2, fl_KF, fl_RF, o27, fl_lit, fl_nadd, fl_nmul, fl_ndiv, fl_nsub, fl_msub, fl_nle, fl_nlt, fl_neq, fl_nclamp, fl_nin, fl_ltT, fl_ltF, fl_leT, fl_leF, fl_eqT, fl_eqF, decide_true, decide_false, Bool.true_and, Bool.and_true, Bool.false_and, Bool.and_false, if_true, if_false, Bool.false_eq_true, Option.isSome_some, Option.getD_some, not_true_eq_false, not_false_eq_true, Option.toList_some, Option.toList_none, List.cons_append, List.nil_append, e28, fbP_152_15, i27]
theorem fo_begins_b {H : fl_H} {g : Nat → Nat} (hg1 : fl_g k0 H) (m : fl_mm H g) : fl_cl fl_C 153 [.ref 259] H = some (some (some (.int (Int32.ofNat (g 76)))), fl_wl (fl_wi (fl_wi H 259 (fl_up (fl_i H 259) 0 (Int32.ofNat 0))) 262 (fl_up (fl_i H 262) 76 (Int32.ofNat 0))) 263 (fl_up (fl_l H 263) 0 0)) := by
  have hgA : fl_g k0 (fl_wi H 259 (fl_up (fl_i H 259) 0 (Int32.ofNat 0))) := ⟨by rw [fl_k_wi]; exact hg1.1, by rw [fl_r_wi]; exact hg1.2⟩
  have mA : fl_mm (fl_wi H 259 (fl_up (fl_i H 259) 0 (Int32.ofNat 0))) g := fun j hj => by
    rw [fl_i_wi, if_neg (by omega)]; exact m j hj
  have e130 := fr_130 hgA mA
  rw [fbE_153]
  clear mA m
  simp (disch := omega) only [fl_k_wl, fl_r_wl, fl_i_wl, fl_l_wl, fl_1_wl, fl_k_wi, fl_r_wi, fl_l_wi, fl_1_wi, fl_i_wi, fl_k_si, fl_r_si, fl_l_si, fl_k_sl, fl_r_sl, fl_i_sl, fl_up_self, fl_up_ne, fl_si_wi, fl_sl_wl, fl_wi_wi, fl_wl_wl, hg1.1, hg1.2, fl_KM, fl_RM, fl_lit, fl_nadd, fl_nmul, fl_ndiv, fl_nsub, fl_msub, fl_nle, fl_nlt, fl_neq, fl_nclamp, fl_nin, fl_ltT, fl_ltF, fl_leT, fl_leF, fl_eqT, fl_eqF, decide_true, decide_false, Bool.true_and, Bool.and_true, Bool.false_and, Bool.and_false, if_true, if_false, Bool.false_eq_true, Option.isSome_some, Option.getD_some, not_true_eq_false, not_false_eq_true, Option.toList_some, Option.toList_none, List.cons_append, List.nil_append, fbC_153_5, fbC_153_18, fbC_153_25, fbP_153_9, e130]
/-- the reference's writes behind begins -/
def fl_bg (H : fl_H) : fl_H := fl_wl (fl_wi (fl_wi H 259 (fl_up (fl_i H 259) 0 (Int32.ofNat 0))) 262 (fl_up (fl_i H 262) 76 (Int32.ofNat 0))) 263 (fl_up (fl_l H 263) 0 0)
theorem fl_bg_i {H : fl_H} {q : Nat} (h1 : q ≠ 259) (h2 : q ≠ 262) : fl_i (fl_bg H) q = fl_i H q := by
  unfold fl_bg
  rw [fl_i_wl, fl_i_wi, if_neg h2, fl_i_wi, if_neg h1]
theorem fl_bg_l {H : fl_H} {q : Nat} (h1 : q ≠ 263) : fl_l (fl_bg H) q = fl_l H q := by
  unfold fl_bg
  rw [fl_l_wl, if_neg h1, fl_l_wi, fl_l_wi]
theorem fl_bg_259 {H : fl_H} {j : Nat} (hj : j ≠ 0) : fl_i (fl_bg H) 259 j = fl_i H 259 j := by
  unfold fl_bg
  rw [fl_i_wl, fl_i_wi, if_neg (by omega), fl_i_wi, if_pos rfl, fl_up_ne hj]
theorem fl_bg_262 {H : fl_H} : fl_i (fl_bg H) 262 = fl_up (fl_i H 262) 76 (Int32.ofNat 0) := by
  unfold fl_bg
  rw [fl_i_wl, fl_i_wi, if_pos rfl]
theorem fl_bg_263 {H : fl_H} : fl_l (fl_bg H) 263 = fl_up (fl_l H 263) 0 0 := by
  unfold fl_bg
  rw [fl_l_wl, if_pos rfl]
theorem fl_bg_G {H : fl_H} {g g1 g2 : Nat → Nat} {b1 b2 : Bool} {s s1 s2 : Int64} (iG : fl_iG h g g1 g2 b1 b2 s s1 s2) (lo : ∀ q, q < 27 ∨ 65 < q → fl_i H q = fl_i h q ∧ fl_l H q = fl_l h q) (r1 : fl_rn H 27 (fl_up g 76 0) 0) : fl_iG (fl_bg H) (fl_up g 76 0) g1 g2 b1 b2 0 s1 s2 := by
  have fr : ∀ r g s, (r = 66 ∨ r = 105) → fl_rn h r g s → fl_rn (fl_bg H) r g s := fun r g s hr d => fl_rn_fr d fun q h1 h2 => by
    rw [fl_bg_i (by omega) (by omega), fl_bg_l (by omega)]
    exact lo q (by omega)
  have e262 : ∀ j, 126 ≤ j → fl_i (fl_bg H) 262 j = fl_i h 262 j := fun j hj => by
    rw [fl_bg_262, fl_up_ne (by omega), (lo 262 (by omega)).1]
  refine ⟨fl_wf_76 iG.1, fun j hj => ?_, ?_, ?_, ⟨?_, ?_, fun z => ?_⟩, ⟨?_, ?_, fun z => ?_⟩⟩
  · rw [fl_bg_262]
    by_cases e : j = 76
    · subst e; rw [fl_up_self, fl_up_self]
    · rw [fl_up_ne e, fl_up_ne e, (lo 262 (by omega)).1]; exact iG.2.1 j hj
  · rw [fl_bg_263, fl_up_self]
  · exact fl_rn_fr r1 fun q h1 h2 => ⟨fl_bg_i (by omega) (by omega), fl_bg_l (by omega)⟩
  · rw [fl_bg_i (by omega) (by omega), (lo 0 (by omega)).1]; exact iG.2.2.2.2.1.1
  · rw [fl_bg_i (by omega) (by omega), (lo 283 (by omega)).1]; exact iG.2.2.2.2.1.2.1
  · have := iG.2.2.2.2.1.2.2 z
    refine ⟨this.1, fun j hj => by rw [e262 _ (by omega)]; exact this.2.1 j hj, ?_, fr 66 g1 s1 (Or.inl rfl) this.2.2.2⟩
    rw [fl_bg_263, fl_up_ne (by omega), (lo 263 (by omega)).2]; exact this.2.2.1
  · rw [fl_bg_i (by omega) (by omega), (lo 0 (by omega)).1]; exact iG.2.2.2.2.2.1
  · rw [fl_bg_i (by omega) (by omega), (lo 283 (by omega)).1]; exact iG.2.2.2.2.2.2.1
  · have := iG.2.2.2.2.2.2.2 z
    refine ⟨this.1, fun j hj => by rw [e262 _ (by omega)]; exact this.2.1 j hj, ?_, fr 105 g2 s2 (Or.inr rfl) this.2.2.2⟩
    rw [fl_bg_263, fl_up_ne (by omega), (lo 263 (by omega)).2]; exact this.2.2.1
theorem fo_begins (I : fl_Inv k0 c h) : fl_both k0 c 152 153 [] [] h := by
  obtain ⟨hg, hc, ⟨tn, tx, iT⟩, ⟨rn, rv, iO⟩, ⟨cn, ck, cm, iC⟩, g, g1, g2, b1, b2, s, s1, s2, iG⟩ := I
  have w := iG.1
  have d := iG.2.2.2.1
  have lt : ∀ j, j < 76 → fl_up g 76 0 j = g j := fun j hj => fl_up_ne (by omega)
  have d' : fl_net h (27 + 1) (fl_up g 76 0) := fl_net_cg w lt d.1
  have eO := fo_begins_a hg w d
  have rg := fl_rs_rg (h := h) (g := fl_up g 76 0) (r := 27)
  have r1 : fl_rn (fl_rs h 27 (fl_up g 76 0)) 27 (fl_up g 76 0) 0 := fl_rs_rn (fl_wf_76 w) d' (by rw [fl_up_ne (show 77 ≠ 76 by omega)]; exact d.2.1.2) fl_up_self
  generalize fl_rs h 27 (fl_up g 76 0) = H at eO rg r1
  have hg1 : fl_g k0 H := ⟨rg.2.1.trans hg.1, rg.2.2.1.trans hg.2⟩
  have lo : ∀ q, q < 27 ∨ 65 < q → fl_i H q = fl_i h q ∧ fl_l H q = fl_l h q := fun q hq => rg.2.2.2 q (by omega)
  have mH : fl_mm H g := fun j hj => by rw [(lo 262 (by omega)).1]; exact iG.2.1 j hj
  have eM := fo_begins_b hg1 mH
  refine ⟨_, H, fl_bg H, eO, eM, ?_⟩
  have k1 : fl_k (fl_bg H) = fl_k H := by unfold fl_bg; rw [fl_k_wl, fl_k_wi, fl_k_wi]
  have k2 : fl_r (fl_bg H) = fl_r H := by unfold fl_bg; rw [fl_r_wl, fl_r_wi, fl_r_wi]
  have k3 : (fl_bg H).1 = H.1 := by unfold fl_bg; rw [fl_1_wl, fl_1_wi, fl_1_wi]
  refine ⟨⟨k1.trans hg1.1, k2.trans hg1.2⟩, (k3.trans rg.1).trans hc, ⟨tn, tx, ?_⟩, ⟨rn, rv, ?_⟩, ⟨cn, ck, cm, ?_⟩, fl_up g 76 0, g1, g2, b1, b2, 0, s1, s2, fl_bg_G iG lo r1⟩
  · exact fl_iT_fr iT (by rw [fl_bg_259 (by omega), (lo 259 (by omega)).1]) (by rw [fl_bg_i (by omega) (by omega), (lo 261 (by omega)).1]) (by rw [fl_bg_i (by omega) (by omega), (lo 1 (by omega)).1]) (by rw [fl_bg_l (by omega), (lo 3 (by omega)).2])
  · exact fl_iO_fr iO (by rw [fl_bg_259 (by omega), (lo 259 (by omega)).1]) (by rw [fl_bg_l (by omega), (lo 260 (by omega)).2]) (by rw [fl_bg_i (by omega) (by omega), (lo 4 (by omega)).1]) (by rw [fl_bg_l (by omega), (lo 6 (by omega)).2])
  · exact fl_iC_fr iC (by rw [fl_bg_259 (by omega), (lo 259 (by omega)).1]) (by rw [fl_bg_i (by omega) (by omega), (lo 264 (by omega)).1]) (by rw [fl_bg_i (by omega) (by omega), (lo 265 (by omega)).1]) (by rw [fl_bg_i (by omega) (by omega), (lo 21 (by omega)).1]) (by rw [fl_bg_i (by omega) (by omega), (lo 24 (by omega)).1]) (by rw [fl_bg_l (by omega), (lo 23 (by omega)).2]) (by rw [fl_bg_l (by omega), (lo 26 (by omega)).2])
end
