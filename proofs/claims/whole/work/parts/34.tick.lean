/-! A TICK of a side -/
theorem fl_net_fr {h h' : fl_H} {n : Nat} {g : Nat → Nat} (d : fl_net h n g) (hi : fl_i h' n = fl_i h n) (hl : ∀ b, n ≤ b → b ≤ n + 12 → fl_l h' b = fl_l h b) : fl_net h' n g := by
  refine ⟨?_, ?_, ?_, ?_, ?_, ?_, ?_⟩
  · rw [hi]; exact d.1
  · rw [hl _ (by omega) (by omega)]; exact d.2.1
  · rw [hl _ (by omega) (by omega)]; exact d.2.2.1
  · rw [hl _ (by omega) (by omega)]; exact d.2.2.2.1
  · rw [hl _ (by omega) (by omega)]; exact d.2.2.2.2.1
  · rw [hl _ (by omega) (by omega)]; exact d.2.2.2.2.2.1
  · rw [hl _ (by omega) (by omega)]; exact d.2.2.2.2.2.2
/-- the ones (z = 1) and the zeros (z = 0) of the first k lines laid -/
def fl_lvv (g : Nat → Nat) (lv : Nat → Bool) (pt : Nat) (hd : Nat → Nat → Nat) (z k : Nat) : Nat → Int64 := fun j => fl_B (fun c => decide (fl_lay g (fl_fa lv c) pt (hd c) k j = z))
theorem fl_lvv_up {g : Nat → Nat} {lv : Nat → Bool} {pt : Nat} {hd : Nat → Nat → Nat} {z k : Nat} {old : Nat → Int64} {X : Int64} {raw : Nat → Nat} (hr : ∀ c, raw c = if k < g 1 then pt / 4 ^ k % 4 else if g (4 + k) = 8 then hd c k else fl_gt g (fl_fa lv c) (fl_lay g (fl_fa lv c) pt (hd c) k) k) :
    fl_up (fl_up (fl_al k (fl_lvv g lv pt hd z k) old) k X) k (fl_B (fun c => decide (fl_stk (fl_fa lv c) k (raw c) = z))) = fl_al (k + 1) (fl_lvv g lv pt hd z (k + 1)) old := by
  rw [fl_up_up]
  funext j
  by_cases e : j = k
  · subst e
    rw [fl_up_self, fl_al_lt (by omega)]
    unfold fl_lvv
    refine fl_B_congr fun c _ => ?_
    rw [fl_lay, fl_up_self, hr c]
  · rw [fl_up_ne e]
    by_cases l : j < k
    · rw [fl_al_lt l, fl_al_lt (by omega)]
      unfold fl_lvv
      refine fl_B_congr fun c _ => ?_
      rw [fl_lay, fl_up_ne e]
    · rw [fl_al_ge (by omega), fl_al_ge (by omega)]
section
variable {k0 : Nat → Nat × Nat} {h : fl_H} {g : Nat → Nat} {n o : Nat}
theorem fc_115s (hg : fl_g k0 h) (nn : fl_isN k0 n) (ss : fl_isS k0 o) (w : fl_wf g) (d : fl_net h n g) (sep : n + 12 < o ∨ o + 8 < n) {pt : Nat} (hp : pt < 256) (lv : Nat → Bool) (hd : Nat → Nat → Nat) (hr : ∀ k, k < g 0 → g (4 + k) = 8 → fl_l h (o + 6) k = fl_B (fun c => decide (hd c k = 1)) ∧ fl_l h (o + 8) k = fl_B (fun c => decide (hd c k = 0))) {k : Nat} (hk : k < g 0) :
    fl_Rn fl_C 115 3 [some (.ref o), some (.ref n), some (.int (Int32.ofNat pt)), some (.long (fl_B lv)), none, some (.int (Int32.ofNat k))] [] (fl_ww h (o + 2) (o + 4) (fl_al k (fl_lvv g lv pt hd 1 k) (fl_l h (o + 2))) (fl_al k (fl_lvv g lv pt hd 0 k) (fl_l h (o + 4)))) =
    fl_Rn fl_C 115 3 [some (.ref o), some (.ref n), some (.int (Int32.ofNat pt)), some (.long (fl_B lv)), none, some (.int (Int32.ofNat (k + 1)))] [] (fl_ww h (o + 2) (o + 4) (fl_al (k + 1) (fl_lvv g lv pt hd 1 (k + 1)) (fl_l h (o + 2))) (fl_al (k + 1) (fl_lvv g lv pt hd 0 (k + 1)) (fl_l h (o + 4)))) := by
  have w1 := w.1
  have k12 : k < 12 := by omega
  have g12 : g 0 ≤ 12 := by omega
  have hgw : ∀ A B, fl_g k0 (fl_ww h (o + 2) (o + 4) A B) := fun A B => hg
  have dw : ∀ A B, fl_net (fl_ww h (o + 2) (o + 4) A B) n g := fun A B => fl_net_fr d rfl (fun b h1 h2 => fl_ww_lo (by omega) (by omega))
  have pt1 : ∀ A B v, fl_cl fl_C 20 [.ref (o + 1), .int (Int32.ofNat k), .long v] (fl_ww h (o + 2) (o + 4) A B) = some (some none, fl_ww h (o + 2) (o + 4) (fl_up A k v) B) := fun A B v => by
    rw [fc_put ss.2.1 (hgw A B) k12, fl_ww_la (by omega), fl_ww_a (by omega)]
  have pt0 : ∀ A B v, fl_cl fl_C 20 [.ref (o + 3), .int (Int32.ofNat k), .long v] (fl_ww h (o + 2) (o + 4) A B) = some (some none, fl_ww h (o + 2) (o + 4) A (fl_up B k v)) := fun A B v => by
    rw [fc_put ss.2.2.1 (hgw A B) k12, fl_ww_lb, fl_ww_b]
  have fin : ∀ (X Y : Int64) (raw : Nat → Nat), X = fl_B (fun c => decide (raw c = 1)) → Y = fl_B (fun c => decide (raw c = 0)) → (∀ c, raw c = if k < g 1 then pt / 4 ^ k % 4 else if g (4 + k) = 8 then hd c k else fl_gt g (fl_fa lv c) (fl_lay g (fl_fa lv c) pt (hd c) k) k) → fl_Rn fl_C 115 146 [some (.ref o), some (.ref n), some (.int (Int32.ofNat pt)), some (.long (fl_B lv)), none, some (.int (Int32.ofNat k))] [] (fl_ww h (o + 2) (o + 4) (fl_up (fl_al k (fl_lvv g lv pt hd 1 k) (fl_l h (o + 2))) k X) (fl_up (fl_al k (fl_lvv g lv pt hd 0 k) (fl_l h (o + 4))) k Y)) = fl_Rn fl_C 115 3 [some (.ref o), some (.ref n), some (.int (Int32.ofNat pt)), some (.long (fl_B lv)), none, some (.int (Int32.ofNat (k + 1)))] [] (fl_ww h (o + 2) (o + 4) (fl_al (k + 1) (fl_lvv g lv pt hd 1 (k + 1)) (fl_l h (o + 2))) (fl_al (k + 1) (fl_lvv g lv pt hd 0 (k + 1)) (fl_l h (o + 4)))) := by
    intro X Y raw hX hY hraw
    have e := fc_114 (h := h) (A := fl_up (fl_al k (fl_lvv g lv pt hd 1 k) (fl_l h (o + 2))) k X) (B := fl_up (fl_al k (fl_lvv g lv pt hd 0 k) (fl_l h (o + 4))) k Y) hg ss k12 lv raw (by rw [fl_up_self]; exact hX) (by rw [fl_up_self]; exact hY)
    rw [fl_lvv_up hraw, fl_lvv_up hraw] at e
    rw [fbC_115_146, fl_k_ww, hg.1, ss.1.1, e, fbP_115_153, fl_succ]
    rfl
  have es := d.2.1 k hk
  have d1 := d.1
  have at1 : ∀ A B, fl_cl fl_C 24 [.ref (n + 1), .int (Int32.ofNat k)] (fl_ww h (o + 2) (o + 4) A B) = some (some (some (.int (Int32.ofNat (g (4 + k))))), fl_ww h (o + 2) (o + 4) A B) := fun A B => by
    rw [fc_int nn.2.1 (hgw A B) k12, (dw A B).2.1 k hk, fl_o32]
  have b4 := w.2.2.2.2.2.2.2.2.1 (4 + k) (by omega)
  rw [fbC_115_3]
  by_cases c1 : k < g 1
  · have ei := fl_inp pt hp k (by omega)
    have s0 := (w.2.1 k c1).1
    have f11 := fin (-1) 0 (fun _ => pt / 4 ^ k % 4)
    have f00 := fin 0 (-1) (fun _ => pt / 4 ^ k % 4)
    have f02 := fin 0 0 (fun _ => pt / 4 ^ k % 4)
    have vl : pt / 4 ^ k % 4 < 4 := Nat.mod_lt _ (by omega)
    have rw1 : ∀ c : Nat, (fun _ => pt / 4 ^ k % 4 : Nat → Nat) c = if k < g 1 then pt / 4 ^ k % 4 else if g (4 + k) = 8 then hd c k else fl_gt g (fl_fa lv c) (fl_lay g (fl_fa lv c) pt (hd c) k) k := fun c => by rw [if_pos c1]
    clear fin hr w w1 d dw hp
    by_cases v1 : pt / 4 ^ k % 4 = 1
    · have F := f11 (by rw [v1]; exact fl_B_m1) (by rw [v1]; exact fl_B_0) rw1
      simp (disch := omega) only [fl_k_ww, fl_r_ww, fl_i_ww, hg.1, hg.2, nn.1, nn.2.1, ss.1, ss.2.1, ss.2.2.1, d1, at1, fl_lit, fl_nadd, fl_nmul, fl_ndiv, fl_nsub, fl_msub, fl_nle, fl_nlt, fl_neq, fl_nclamp, fl_nin, fl_ltT, fl_ltF, fl_leT, fl_leF, fl_eqT, fl_eqF, decide_true, decide_false, Bool.true_and, Bool.and_true, Bool.false_and, Bool.and_false, if_true, if_false, Bool.false_eq_true, Option.isSome_some, Option.getD_some, not_true_eq_false, not_false_eq_true, Option.toList_some, Option.toList_none, List.cons_append, List.nil_append, fbP_115_21, s0, ei, pt1, fbP_115_60, pt0, fbP_115_81, F]
    · by_cases v0 : pt / 4 ^ k % 4 = 0
      · have F := f00 (by rw [v0]; exact fl_B_0) (by rw [v0]; exact fl_B_m1) rw1
        simp (disch := omega) only [fl_k_ww, fl_r_ww, fl_i_ww, hg.1, hg.2, nn.1, nn.2.1, ss.1, ss.2.1, ss.2.2.1, d1, at1, fl_lit, fl_nadd, fl_nmul, fl_ndiv, fl_nsub, fl_msub, fl_nle, fl_nlt, fl_neq, fl_nclamp, fl_nin, fl_ltT, fl_ltF, fl_leT, fl_leF, fl_eqT, fl_eqF, decide_true, decide_false, Bool.true_and, Bool.and_true, Bool.false_and, Bool.and_false, if_true, if_false, Bool.false_eq_true, Option.isSome_some, Option.getD_some, not_true_eq_false, not_false_eq_true, Option.toList_some, Option.toList_none, List.cons_append, List.nil_append, fbP_115_21, s0, ei, pt1, fbP_115_60, pt0, fbP_115_81, F]
      · have F := f02 (by rw [fl_B_0]; exact fl_B_congr fun _ _ => (decide_eq_false v1).symm) (by rw [fl_B_0]; exact fl_B_congr fun _ _ => (decide_eq_false v0).symm) rw1
        simp (disch := omega) only [fl_k_ww, fl_r_ww, fl_i_ww, hg.1, hg.2, nn.1, nn.2.1, ss.1, ss.2.1, ss.2.2.1, d1, at1, fl_lit, fl_nadd, fl_nmul, fl_ndiv, fl_nsub, fl_msub, fl_nle, fl_nlt, fl_neq, fl_nclamp, fl_nin, fl_ltT, fl_ltF, fl_leT, fl_leF, fl_eqT, fl_eqF, decide_true, decide_false, Bool.true_and, Bool.and_true, Bool.false_and, Bool.and_false, if_true, if_false, Bool.false_eq_true, Option.isSome_some, Option.getD_some, not_true_eq_false, not_false_eq_true, Option.toList_some, Option.toList_none, List.cons_append, List.nil_append, fbP_115_21, s0, ei, pt1, fbP_115_60, pt0, fbP_115_81, F]
  · by_cases c8 : g (4 + k) = 8
    · obtain ⟨r1, r0⟩ := hr k hk c8
      have h1 : ∀ A B, fl_cl fl_C 105 [.ref (o + 5), .int (Int32.ofNat k)] (fl_ww h (o + 2) (o + 4) A B) = some (some (some (.long (fl_B (fun c => decide (hd c k = 1))))), fl_ww h (o + 2) (o + 4) A B) := fun A B => by
        rw [fc_at ss.2.2.2.1 (hgw A B) k12, fl_ww_lo (by omega) (by omega), r1]
      have h0 : ∀ A B, fl_cl fl_C 105 [.ref (o + 7), .int (Int32.ofNat k)] (fl_ww h (o + 2) (o + 4) A B) = some (some (some (.long (fl_B (fun c => decide (hd c k = 0))))), fl_ww h (o + 2) (o + 4) A B) := fun A B => by
        rw [fc_at ss.2.2.2.2 (hgw A B) k12, fl_ww_lo (by omega) (by omega), r0]
      have F := fin _ _ (fun c => hd c k) rfl rfl (fun c => by rw [if_neg c1, if_pos c8])
      clear fin hr w w1 d dw hp
      simp (disch := omega) only [fl_k_ww, fl_r_ww, fl_i_ww, hg.1, hg.2, nn.1, nn.2.1, ss.1, ss.2.1, ss.2.2.1, ss.2.2.2.1, ss.2.2.2.2, d1, at1, fl_lit, fl_nadd, fl_nmul, fl_ndiv, fl_nsub, fl_msub, fl_nle, fl_nlt, fl_neq, fl_nclamp, fl_nin, fl_ltT, fl_ltF, fl_leT, fl_leF, fl_eqT, fl_eqF, decide_true, decide_false, Bool.true_and, Bool.and_true, Bool.false_and, Bool.and_false, if_true, if_false, Bool.false_eq_true, Option.isSome_some, Option.getD_some, not_true_eq_false, not_false_eq_true, Option.toList_some, Option.toList_none, List.cons_append, List.nil_append, fbP_115_21, c8, h1, pt1, fbP_115_106, fbP_115_109, h0, fbP_115_124, pt0, fbP_115_127, F]
    · have wk := w.2.2.1 k (by omega) hk
      have e := fc_113 (h := fl_ww h (o + 2) (o + 4) (fl_al k (fl_lvv g lv pt hd 1 k) (fl_l h (o + 2))) (fl_al k (fl_lvv g lv pt hd 0 k) (fl_l h (o + 4)))) (hgw _ _) nn ss w (dw _ _) (by omega) hk lv ss.2.1 ss.2.2.1 (fun c => fl_lay g (fl_fa lv c) pt (hd c) k) (by
        intro i hi
        have h1 := w.2.2.2.1 k i (by omega) hk c8 hi
        rw [fl_ww_la (by omega), fl_ww_lb, fl_al_lt h1, fl_al_lt h1]
        exact ⟨rfl, rfl⟩)
      rw [fl_ww_la (by omega), fl_ww_a (by omega), fl_ww_lb, fl_ww_b] at e
      have F := fin _ _ (fun c => fl_gt g (fl_fa lv c) (fl_lay g (fl_fa lv c) pt (hd c) k) k) rfl rfl (fun c => by rw [if_neg c1, if_neg c8])
      have b0 : 1 ≤ g (4 + k) := wk.1
      clear fin hr w w1 d dw hp wk
      simp (disch := omega) only [fl_k_ww, fl_r_ww, fl_i_ww, hg.1, hg.2, nn.1, nn.2.1, ss.1, ss.2.1, ss.2.2.1, d1, at1, fl_lit, fl_nadd, fl_nmul, fl_ndiv, fl_nsub, fl_msub, fl_nle, fl_nlt, fl_neq, fl_nclamp, fl_nin, fl_ltT, fl_ltF, fl_leT, fl_leF, fl_eqT, fl_eqF, decide_true, decide_false, Bool.true_and, Bool.and_true, Bool.false_and, Bool.and_false, if_true, if_false, Bool.false_eq_true, Option.isSome_some, Option.getD_some, not_true_eq_false, not_false_eq_true, Option.toList_some, Option.toList_none, List.cons_append, List.nil_append, fbP_115_21, e, fbP_115_146, F]
end
