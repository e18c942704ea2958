/-! A RUN of the class copied -/
section
variable {k0 : Nat → Nat × Nat} {h h' : fl_H}
def fl_cpr (h : fl_H) (a b : Nat) : fl_H := fl_wl (fl_wi h a (fl_up (fl_up (fl_i h a) 3 (fl_i h b 3)) 4 (fl_i h b 4))) a (fl_up (fl_up (fl_up (fl_l h a) 5 (fl_l h b 5)) 6 (fl_l h b 6)) 7 (fl_l h b 7))
def fl_cpR1 (h : fl_H) (a b : Nat) : fl_H := fl_cp (fl_cpB (fl_cpN h (a + 1) (b + 1)) (a + 14) (b + 14)) (a + 34) (b + 34) 24
def fl_cpR (h : fl_H) (a b : Nat) : fl_H := fl_cp (fl_cp (fl_cpr (fl_cpR1 h a b) a b) (a + 36) (b + 36) 64) (a + 38) (b + 38) 64
theorem fl_k_cpR1 {a b : Nat} : fl_k (fl_cpR1 h a b) = fl_k h := by unfold fl_cpR1 fl_cpB; rw [fl_k_cp, fl_k_cpS, fl_k_cpS, fl_k_cpN]
theorem fl_r_cpR1 {a b : Nat} : fl_r (fl_cpR1 h a b) = fl_r h := by unfold fl_cpR1 fl_cpB; rw [fl_r_cp, fl_r_cpS, fl_r_cpS, fl_r_cpN]
theorem fl_1_cpR1 {a b : Nat} : (fl_cpR1 h a b).1 = h.1 := by unfold fl_cpR1 fl_cpB; rw [fl_1_cp, fl_1_cpS, fl_1_cpS, fl_1_cpN]
theorem fl_i_cpR1 {a b q : Nat} (hq : q ≠ a + 1) : fl_i (fl_cpR1 h a b) q = fl_i h q := by unfold fl_cpR1 fl_cpB; rw [fl_i_cp, fl_i_cpS, fl_i_cpS, fl_i_cpN hq]
theorem fl_l_cpR1 {a b q : Nat} (hq : q ≤ a ∨ a + 34 < q) : fl_l (fl_cpR1 h a b) q = fl_l h q := by unfold fl_cpR1 fl_cpB; rw [fl_l_cp (by omega), fl_l_cpS (by omega), fl_l_cpS (by omega), fl_l_cpN (by omega)]
theorem fl_k_cpr {a b : Nat} : fl_k (fl_cpr h a b) = fl_k h := by unfold fl_cpr; rw [fl_k_wl, fl_k_wi]
theorem fl_r_cpr {a b : Nat} : fl_r (fl_cpr h a b) = fl_r h := by unfold fl_cpr; rw [fl_r_wl, fl_r_wi]
theorem fl_1_cpr {a b : Nat} : (fl_cpr h a b).1 = h.1 := by unfold fl_cpr; rw [fl_1_wl, fl_1_wi]
theorem fl_i_cpr {a b q : Nat} (hq : q ≠ a) : fl_i (fl_cpr h a b) q = fl_i h q := by unfold fl_cpr; rw [fl_i_wl, fl_i_wi, if_neg hq]
theorem fl_l_cpr {a b q : Nat} (hq : q ≠ a) : fl_l (fl_cpr h a b) q = fl_l h q := by unfold fl_cpr; rw [fl_l_wl, if_neg hq, fl_l_wi]
theorem fl_cpR_rg {a b : Nat} : fl_rg a (a + 38) h (fl_cpR h a b) := by
  unfold fl_cpR
  refine ⟨by rw [fl_1_cp, fl_1_cp, fl_1_cpr, fl_1_cpR1], by rw [fl_k_cp, fl_k_cp, fl_k_cpr, fl_k_cpR1], by rw [fl_r_cp, fl_r_cp, fl_r_cpr, fl_r_cpR1], fun q hq => ⟨?_, ?_⟩⟩
  · rw [fl_i_cp, fl_i_cp, fl_i_cpr (by omega), fl_i_cpR1 (by omega)]
  · rw [fl_l_cp (by omega), fl_l_cp (by omega), fl_l_cpr (by omega), fl_l_cpR1 (by omega)]
theorem fl_cpR_rn {a b : Nat} {g : Nat → Nat} {s : Int64} (w : fl_wf g) (d : fl_rn h b g s) (sep : a + 38 < b ∨ b + 38 < a) : fl_rn (fl_cpR h a b) a g s := by
  have w1 := w.1
  have up : ∀ q, a + 1 ≤ q → q ≤ a + 34 → fl_l (fl_cpR h a b) q = fl_l (fl_cpR1 h a b) q := fun q h1 h2 => by
    unfold fl_cpR
    rw [fl_l_cp (by omega), fl_l_cp (by omega), fl_l_cpr (by omega)]
  have upi : ∀ q, a + 1 ≤ q → fl_i (fl_cpR h a b) q = fl_i (fl_cpR1 h a b) q := fun q h1 => by
    unfold fl_cpR
    rw [fl_i_cp, fl_i_cp, fl_i_cpr (by omega)]
  have upB : ∀ q, a + 1 ≤ q → q ≤ a + 33 → fl_l (fl_cpR1 h a b) q = fl_l (fl_cpB (fl_cpN h (a + 1) (b + 1)) (a + 14) (b + 14)) q := fun q h1 h2 => by
    unfold fl_cpR1
    rw [fl_l_cp (by omega)]
  have upN : ∀ q, a + 1 ≤ q → q ≤ a + 13 → fl_l (fl_cpB (fl_cpN h (a + 1) (b + 1)) (a + 14) (b + 14)) q = fl_l (fl_cpN h (a + 1) (b + 1)) q := fun q h1 h2 => by
    unfold fl_cpB
    rw [fl_l_cpS (by omega), fl_l_cpS (by omega)]
  have nt := fl_cpN_net (n := a + 1) w d.1 (by omega)
  have lB : ∀ q, b ≤ q → q ≤ b + 38 → fl_l (fl_cpN h (a + 1) (b + 1)) q = fl_l h q := fun q h1 h2 => fl_l_cpN (by omega)
  have sd : ∀ k, k < 12 → (fl_l (fl_cpR h a b) (a + 14 + 1 + 2) k = fl_l h (b + 14 + 1 + 2) k ∧ fl_l (fl_cpR h a b) (a + 14 + 1 + 4) k = fl_l h (b + 14 + 1 + 4) k ∧ fl_l (fl_cpR h a b) (a + 14 + 1 + 6) k = fl_l h (b + 14 + 1 + 6) k ∧ fl_l (fl_cpR h a b) (a + 14 + 1 + 8) k = fl_l h (b + 14 + 1 + 8) k) ∧ (fl_l (fl_cpR h a b) (a + 14 + 10 + 2) k = fl_l h (b + 14 + 10 + 2) k ∧ fl_l (fl_cpR h a b) (a + 14 + 10 + 4) k = fl_l h (b + 14 + 10 + 4) k ∧ fl_l (fl_cpR h a b) (a + 14 + 10 + 6) k = fl_l h (b + 14 + 10 + 6) k ∧ fl_l (fl_cpR h a b) (a + 14 + 10 + 8) k = fl_l h (b + 14 + 10 + 8) k) := fun k hk => by
    have p1 := fl_l_cpSj (h := fl_cpN h (a + 1) (b + 1)) (o := a + 14 + 1) (p := b + 14 + 1) (by omega) hk
    have p2 := fl_l_cpSj (h := fl_cpS (fl_cpN h (a + 1) (b + 1)) (a + 14 + 1) (b + 14 + 1)) (o := a + 14 + 10) (p := b + 14 + 10) (by omega) hk
    have r1 : ∀ q, a + 15 ≤ q → q ≤ a + 23 → fl_l (fl_cpR h a b) q = fl_l (fl_cpS (fl_cpN h (a + 1) (b + 1)) (a + 14 + 1) (b + 14 + 1)) q := fun q h1 h2 => by
      rw [up q (by omega) (by omega), upB q (by omega) (by omega)]
      unfold fl_cpB
      rw [fl_l_cpS (by omega)]
    have r2 : ∀ q, a + 24 ≤ q → q ≤ a + 32 → fl_l (fl_cpR h a b) q = fl_l (fl_cpS (fl_cpS (fl_cpN h (a + 1) (b + 1)) (a + 14 + 1) (b + 14 + 1)) (a + 14 + 10) (b + 14 + 10)) q := fun q h1 h2 => by
      rw [up q (by omega) (by omega), upB q (by omega) (by omega)]
      rfl
    have s1 : ∀ q, b + 24 ≤ q → q ≤ b + 32 → fl_l (fl_cpS (fl_cpN h (a + 1) (b + 1)) (a + 14 + 1) (b + 14 + 1)) q = fl_l h q := fun q h1 h2 => by
      rw [fl_l_cpS (by omega), lB q (by omega) (by omega)]
    refine ⟨⟨?_, ?_, ?_, ?_⟩, ?_, ?_, ?_, ?_⟩
    · rw [r1 _ (by omega) (by omega), p1.1, lB _ (by omega) (by omega)]
    · rw [r1 _ (by omega) (by omega), p1.2.1, lB _ (by omega) (by omega)]
    · rw [r1 _ (by omega) (by omega), p1.2.2.1, lB _ (by omega) (by omega)]
    · rw [r1 _ (by omega) (by omega), p1.2.2.2, lB _ (by omega) (by omega)]
    · rw [r2 _ (by omega) (by omega), p2.1, s1 _ (by omega) (by omega)]
    · rw [r2 _ (by omega) (by omega), p2.2.1, s1 _ (by omega) (by omega)]
    · rw [r2 _ (by omega) (by omega), p2.2.2.1, s1 _ (by omega) (by omega)]
    · rw [r2 _ (by omega) (by omega), p2.2.2.2, s1 _ (by omega) (by omega)]
  have pt : ∀ t, t < 24 → fl_l (fl_cpR h a b) (a + 34) t = fl_l h (b + 34) t := fun t ht => by
    rw [up _ (by omega) (by omega)]
    unfold fl_cpR1
    rw [fl_l_cpj ht]
    unfold fl_cpB
    rw [fl_l_cpS (by omega), fl_l_cpS (by omega), lB _ (by omega) (by omega)]
  have c6 : ∀ t, t < 64 → fl_l (fl_cpR h a b) (a + 36) t = fl_l h (b + 36) t := fun t ht => by
    unfold fl_cpR
    rw [fl_l_cp (by omega), fl_l_cpj ht, fl_l_cpr (by omega), fl_l_cpR1 (by omega)]
  have c8 : ∀ t, t < 64 → fl_l (fl_cpR h a b) (a + 38) t = fl_l h (b + 38) t := fun t ht => by
    unfold fl_cpR
    rw [fl_l_cpj ht, fl_l_cp (by omega), fl_l_cpr (by omega), fl_l_cpR1 (by omega)]
  have il : fl_i (fl_cpR h a b) a 3 = fl_i h b 3 ∧ fl_i (fl_cpR h a b) a 4 = fl_i h b 4 ∧ fl_l (fl_cpR h a b) a 5 = fl_l h b 5 ∧ fl_l (fl_cpR h a b) a 6 = fl_l h b 6 ∧ fl_l (fl_cpR h a b) a 7 = fl_l h b 7 := by
    unfold fl_cpR
    rw [fl_i_cp, fl_i_cp, fl_l_cp (by omega), fl_l_cp (by omega)]
    unfold fl_cpr
    rw [fl_i_wl, fl_i_wi, if_pos rfl, fl_l_wl, if_pos rfl, fl_i_cpR1 (q := b) (by omega), fl_l_cpR1 (q := b) (by omega)]
    refine ⟨?_, ?_, ?_, ?_, ?_⟩
    · rw [fl_up_ne (by omega), fl_up_self]
    · rw [fl_up_self]
    · rw [fl_up_ne (by omega), fl_up_ne (by omega), fl_up_self]
    · rw [fl_up_ne (by omega), fl_up_self]
    · rw [fl_up_self]
  refine ⟨fl_net_fr nt ?_ (fun q h1 h2 => ?_), ⟨?_, ?_⟩, ⟨?_, ?_, ?_⟩, fun t ht => ?_, fun f hf hs => ?_, fun hp k hk => ?_, fun k hk h8 => ?_⟩
  · rw [upi _ (by omega)]; unfold fl_cpR1 fl_cpB; rw [fl_i_cp, fl_i_cpS, fl_i_cpS]
  · rw [up q (by omega) (by omega), upB q (by omega) (by omega), upN q (by omega) (by omega)]
  · rw [il.1]; exact d.2.1.1
  · rw [il.2.1]; exact d.2.1.2
  · rw [il.2.2.1]; exact d.2.2.1.1
  · rw [il.2.2.2.1]; exact d.2.2.1.2.1
  · rw [il.2.2.2.2]; exact d.2.2.1.2.2
  · rw [pt t (by omega)]; exact d.2.2.2.1 t ht
  · rw [c6 f (by omega), c8 f (by omega)]; exact d.2.2.2.2.1 f hf hs
  · have := sd k (by omega)
    rw [this.1.1, this.1.2.1, this.2.1, this.2.2.1]; exact d.2.2.2.2.2.1 hp k hk
  · have := sd k (by omega)
    rw [this.1.2.2.1, this.1.2.2.2, this.2.2.2.1, this.2.2.2.2]; exact d.2.2.2.2.2.2 k hk h8
theorem fc_cp {a q b r n : Nat} (c : fl_isC k0 a q n) (d : fl_isC k0 b r n) (hqr : r ≠ q) (hg : fl_g k0 h) : fl_cl fl_C 69 [.ref a, .ref b] h = some (some none, fl_cp h q r n) := fc_copy c d hqr hg
theorem fl_cpR_1 {a b : Nat} : fl_cp (fl_cpB (fl_cpN h (a + 1) (b + 1)) (a + 14) (b + 14)) (a + 34) (b + 34) 24 = fl_cpR1 h a b := rfl
theorem fl_cpR_2 {a b : Nat} : fl_cp (fl_cp (fl_cpr (fl_cpR1 h a b) a b) (a + 36) (b + 36) 64) (a + 38) (b + 38) 64 = fl_cpR h a b := rfl
theorem fc_149c {a b : Nat} (g4 : fl_g k0 h) (ra : fl_isR k0 a) (rb : fl_isR k0 b) (sep : a + 38 < b ∨ b + 38 < a) : fl_Rn fl_C 149 73 [some (.ref a), some (.ref b)] [] h = some (some none, fl_cp (fl_cp h (a + 36) (b + 36) 64) (a + 38) (b + 38) 64) := by
  have e5 : fl_cl fl_C 69 [.ref (a + 35), .ref (b + 35)] h = some (some none, fl_cp h (a + 36) (b + 36) 64) := fc_cp ra.2.2.2.2.1 rb.2.2.2.2.1 (by omega) g4
  have g5 := fl_g_cp (q := a + 36) (r := b + 36) (n := 64) g4
  have e6 : fl_cl fl_C 69 [.ref (a + 37), .ref (b + 37)] _ = some (some none, fl_cp (fl_cp h (a + 36) (b + 36) 64) (a + 38) (b + 38) 64) := fc_cp ra.2.2.2.2.2 rb.2.2.2.2.2 (by omega) g5
  have a1 := ra.1
  have b1 := rb.1
  have c4 := ra.2.2.2.2.1.1
  have c5 := ra.2.2.2.2.2.1
  clear ra rb
  generalize fl_cp (fl_cp h (a + 36) (b + 36) 64) (a + 38) (b + 38) 64 = H6 at *
  generalize fl_cp h (a + 36) (b + 36) 64 = H5 at *
  rw [fbC_149_73]
  simp only [g4.1, g4.2, g5.1, g5.2, a1, b1, c4, c5, fl_lit, fl_nadd, fl_nmul, fl_ndiv, fl_nsub, fl_msub, fl_nle, fl_nlt, fl_neq, fl_nclamp, fl_nin, fl_ltT, fl_ltF, fl_leT, fl_leF, fl_eqT, fl_eqF, decide_true, decide_false, Bool.true_and, Bool.and_true, Bool.false_and, Bool.and_false, if_true, if_false, Bool.false_eq_true, Option.isSome_some, Option.getD_some, not_true_eq_false, not_false_eq_true, Option.toList_some, Option.toList_none, List.cons_append, List.nil_append, e5, e6, fbP_149_84, fbP_149_95]
theorem fc_149b {a b : Nat} {z : Nat} (hz : z ≤ 1) (g3 : fl_g k0 h) (a1 : fl_KK k0 a = (1, 7)) (b1 : fl_KK k0 b = (1, 7)) (hab : b ≠ a) (b4 : fl_i h b 4 = Int32.ofNat z) : fl_ca fl_C 149 33 [some (.ref a), some (.ref b)] [] [] (some (some none, h)) = fl_Rn fl_C 149 73 [some (.ref a), some (.ref b)] [] (fl_cpr h a b) := by
  have bz : fl_b01 (Int32.ofNat z) = true := by rcases (show z = 0 ∨ z = 1 by omega) with e | e <;> subst e <;> rfl
  have em : fl_cpr h a b = fl_wl (fl_wi h a (fl_up (fl_up (fl_i h a) 3 (fl_i h b 3)) 4 (Int32.ofNat z))) a (fl_up (fl_up (fl_up (fl_l h a) 5 (fl_l h b 5)) 6 (fl_l h b 6)) 7 (fl_l h b 7)) := by unfold fl_cpr; rw [b4]
  rw [em]
  have ba : (b = a) = False := eq_false hab
  rw [fbP_149_33]
  simp only [g3.1, g3.2, a1, b1, decide_true, if_true, fbC_149_41, fbC_149_49, fbC_149_57, fbC_149_65, fl_si_wi, fl_sl_wl, fl_k_wi, fl_r_wi, fl_k_wl, fl_r_wl, fl_i_wi, fl_i_wl, fl_l_wi, fl_l_wl, ba, if_false, fl_wi_wi, fl_wl_wl, b4, bz, Bool.and_true]
theorem fc_149 {a b : Nat} {z : Nat} (hz : z ≤ 1) (hg : fl_g k0 h) (ra : fl_isR k0 a) (rb : fl_isR k0 b) (sep : a + 38 < b ∨ b + 38 < a) (e4 : fl_i h b 4 = Int32.ofNat z) : fl_cl fl_C 149 [.ref a, .ref b] h = some (some none, fl_cpR h a b) := by
  have e1 := fc_70 (n := a + 1) (m := b + 1) hg ra.2.1 rb.2.1 (by omega)
  have g1 : fl_g k0 (fl_cpN h (a + 1) (b + 1)) := ⟨by rw [fl_k_cpN]; exact hg.1, by rw [fl_r_cpN]; exact hg.2⟩
  have e2 := fc_148 (b := a + 14) (d := b + 14) g1 ra.2.2.1 rb.2.2.1 (by omega)
  have g2 : fl_g k0 (fl_cpB (fl_cpN h (a + 1) (b + 1)) (a + 14) (b + 14)) := by unfold fl_cpB; exact fl_g_cpS (fl_g_cpS g1)
  have e3 := fc_cp ra.2.2.2.1 rb.2.2.2.1 (by omega) g2
  have g3 : fl_g k0 (fl_cpR1 h a b) := ⟨by rw [fl_k_cpR1]; exact hg.1, by rw [fl_r_cpR1]; exact hg.2⟩
  have g4 : fl_g k0 (fl_cpr (fl_cpR1 h a b) a b) := ⟨by rw [fl_k_cpr]; exact g3.1, by rw [fl_r_cpr]; exact g3.2⟩
  have b4 : fl_i (fl_cpR1 h a b) b 4 = Int32.ofNat z := by rw [fl_i_cpR1 (by omega), e4]
  have e5 := fc_149c g4 ra rb sep
  rw [fl_cpR_2] at e5
  rw [fl_cpR_1] at e3
  have e6 := fc_149b hz g3 ra.1.1 rb.1.1 (by omega) b4
  rw [e5] at e6
  have a1 := ra.1
  have b1 := rb.1
  have c1 := ra.2.1.1.1
  have c2 := ra.2.2.1.1.1
  have c3 := ra.2.2.2.1.1
  clear ra rb e5 g4 b4
  generalize fl_cpR h a b = H6 at *
  generalize fl_cpR1 h a b = H3 at *
  generalize fl_cpB (fl_cpN h (a + 1) (b + 1)) (a + 14) (b + 14) = H2 at *
  generalize fl_cpN h (a + 1) (b + 1) = H1 at *
  rw [fbE_149]
  simp only [hg.1, hg.2, g1.1, g1.2, g2.1, g2.2, a1, b1, c1, c2, c3, fl_lit, fl_nadd, fl_nmul, fl_ndiv, fl_nsub, fl_msub, fl_nle, fl_nlt, fl_neq, fl_nclamp, fl_nin, fl_ltT, fl_ltF, fl_leT, fl_leF, fl_eqT, fl_eqF, decide_true, decide_false, Bool.true_and, Bool.and_true, Bool.false_and, Bool.and_false, if_true, if_false, Bool.false_eq_true, Option.isSome_some, Option.getD_some, not_true_eq_false, not_false_eq_true, Option.toList_some, Option.toList_none, List.cons_append, List.nil_append, e1, e2, e3, fbP_149_11, fbP_149_22, e6]
end
