/-! SIDES of the class: stick and tick -/
theorem fl_hb_2 : ∀ c, c < 64 → fl_hb 2 c = decide (c = 1) := by decide +kernel
theorem fl_B_bit2 {f : Nat} (hf : f < 63) : (2 : Int64) <<< (Int32.toInt64 (Int32.ofNat f) &&& 63) = fl_B (fun c => decide (c = f + 1)) := by
  refine fl_B_of (fun c hc => ?_)
  rw [fl_hb_shl (by omega), decide_eq_true hc, fl_hb_2 _ (by omega), Bool.true_and]
  by_cases h : c < f
  · rw [decide_eq_true h, decide_eq_false (show ¬ c = f + 1 by omega)]; rfl
  · rw [decide_eq_false h, Bool.not_false, Bool.true_and]
    exact decide_eq_decide.mpr (by omega)
/-- two arrays written -/
def fl_ww (h : fl_H) (a b : Nat) (A B : Nat → Int64) : fl_H := fl_wl (fl_wl h a A) b B
theorem fl_ww_a {h : fl_H} {a b : Nat} {A B A' : Nat → Int64} (hn : a ≠ b) : fl_wl (fl_ww h a b A B) a A' = fl_ww h a b A' B := by
  unfold fl_ww
  rw [fl_wl_comm (fun z => hn z.symm), fl_wl_wl]
theorem fl_ww_b {h : fl_H} {a b : Nat} {A B B' : Nat → Int64} : fl_wl (fl_ww h a b A B) b B' = fl_ww h a b A B' := by
  unfold fl_ww
  rw [fl_wl_wl]
theorem fl_ww_la {h : fl_H} {a b : Nat} {A B : Nat → Int64} (hn : a ≠ b) : fl_l (fl_ww h a b A B) a = A := by
  unfold fl_ww
  rw [fl_l_wl, if_neg hn, fl_l_wl, if_pos rfl]
theorem fl_ww_lb {h : fl_H} {a b : Nat} {A B : Nat → Int64} : fl_l (fl_ww h a b A B) b = B := by
  unfold fl_ww
  rw [fl_l_wl, if_pos rfl]
theorem fl_ww_lo {h : fl_H} {a b q : Nat} {A B : Nat → Int64} (ha : q ≠ a) (hb : q ≠ b) : fl_l (fl_ww h a b A B) q = fl_l h q := by
  unfold fl_ww
  rw [fl_l_wl, if_neg hb, fl_l_wl, if_neg ha]
theorem fl_ww_self {h : fl_H} {a b : Nat} {A B : Nat → Int64} (ha : A = fl_l h a) (hb : B = fl_l h b) (hn : a ≠ b) : fl_ww h a b A B = h := by
  unfold fl_ww
  rw [ha, fl_wl_self rfl, fl_wl_self hb]
theorem fl_k_ww {h : fl_H} {a b : Nat} {A B : Nat → Int64} : fl_k (fl_ww h a b A B) = fl_k h := rfl
theorem fl_r_ww {h : fl_H} {a b : Nat} {A B : Nat → Int64} : fl_r (fl_ww h a b A B) = fl_r h := rfl
theorem fl_i_ww {h : fl_H} {a b : Nat} {A B : Nat → Int64} : fl_i (fl_ww h a b A B) = fl_i h := rfl
theorem fl_1_ww {h : fl_H} {a b : Nat} {A B : Nat → Int64} : (fl_ww h a b A B).1 = h.1 := rfl
theorem fc_114 {k0 : Nat → Nat × Nat} {h : fl_H} {o : Nat} {A B : Nat → Int64} (hg : fl_g k0 h) (ss : fl_isS k0 o) {k : Nat} (hk : k < 12) (lv : Nat → Bool) (x : Nat → Nat) (h1 : A k = fl_B (fun c => decide (x c = 1))) (h0 : B k = fl_B (fun c => decide (x c = 0))) :
    fl_cl fl_C 114 [.ref o, .int (Int32.ofNat k), .long (fl_B lv)] (fl_ww h (o + 2) (o + 4) A B) = some (some none, fl_ww h (o + 2) (o + 4) (fl_up A k (fl_B (fun c => decide (fl_stk (fl_fa lv c) k (x c) = 1)))) (fl_up B k (fl_B (fun c => decide (fl_stk (fl_fa lv c) k (x c) = 0))))) := by
  have at1 : fl_cl fl_C 105 [.ref (o + 1), .int (Int32.ofNat k)] (fl_ww h (o + 2) (o + 4) A B) = some (some (some (.long (A k))), fl_ww h (o + 2) (o + 4) A B) := by
    rw [fc_at ss.2.1 (h := fl_ww h (o + 2) (o + 4) A B) hg hk, fl_ww_la (by omega)]
  have pt1 : ∀ v, fl_cl fl_C 20 [.ref (o + 1), .int (Int32.ofNat k), .long v] (fl_ww h (o + 2) (o + 4) A B) = some (some none, fl_ww h (o + 2) (o + 4) (fl_up A k v) B) := fun v => by
    rw [fc_put ss.2.1 (h := fl_ww h (o + 2) (o + 4) A B) hg hk, fl_ww_la (by omega), fl_ww_a (by omega)]
  have at0 : ∀ A', fl_cl fl_C 105 [.ref (o + 3), .int (Int32.ofNat k)] (fl_ww h (o + 2) (o + 4) A' B) = some (some (some (.long (B k))), fl_ww h (o + 2) (o + 4) A' B) := fun A' => by
    rw [fc_at ss.2.2.1 (h := fl_ww h (o + 2) (o + 4) A' B) hg hk, fl_ww_lb]
  have pt0 : ∀ A' v, fl_cl fl_C 20 [.ref (o + 3), .int (Int32.ofNat k), .long v] (fl_ww h (o + 2) (o + 4) A' B) = some (some none, fl_ww h (o + 2) (o + 4) A' (fl_up B k v)) := fun A' v => by
    rw [fc_put ss.2.2.1 (h := fl_ww h (o + 2) (o + 4) A' B) hg hk, fl_ww_lb, fl_ww_b]
  have O1 : (fl_B (fun c => decide (x c = 1)) &&& ((fl_B lv &&& ((1 : Int64) <<< (Int32.toInt64 (Int32.ofNat (2 * k)) &&& 63))) ^^^ (-1))) ||| (fl_B lv &&& ((2 : Int64) <<< (Int32.toInt64 (Int32.ofNat (2 * k)) &&& 63))) = fl_B (fun c => decide (fl_stk (fl_fa lv c) k (x c) = 1)) := by
    rw [fl_B_bit (by omega), fl_B_bit2 (by omega), fl_B_m1, fl_B_and, fl_B_and, fl_B_xor, fl_B_and, fl_B_or]
    exact fl_B_congr (fun c hc => fl_pin1 hc (by omega))
  have O0 : (fl_B (fun c => decide (x c = 0)) &&& ((fl_B lv &&& ((2 : Int64) <<< (Int32.toInt64 (Int32.ofNat (2 * k)) &&& 63))) ^^^ (-1))) ||| (fl_B lv &&& ((1 : Int64) <<< (Int32.toInt64 (Int32.ofNat (2 * k)) &&& 63))) = fl_B (fun c => decide (fl_stk (fl_fa lv c) k (x c) = 0)) := by
    rw [fl_B_bit (by omega), fl_B_bit2 (by omega), fl_B_m1, fl_B_and, fl_B_and, fl_B_xor, fl_B_and, fl_B_or]
    exact fl_B_congr (fun c hc => fl_pin0 hc (by omega))
  rw [fbE_114]
  simp (disch := omega) only [fl_k_ww, fl_r_ww, hg.1, hg.2, ss.1, ss.2.1, ss.2.2.1, fl_lit, fl_nadd, fl_nmul, fl_ndiv, fl_nsub, fl_msub, fl_nle, fl_nlt, fl_neq, fl_nclamp, fl_nin, fl_ltT, fl_ltF, fl_leT, fl_leF, fl_eqT, fl_eqF, decide_true, decide_false, Bool.true_and, Bool.and_true, Bool.false_and, Bool.and_false, if_true, if_false, Bool.false_eq_true, Option.isSome_some, Option.getD_some, not_true_eq_false, not_false_eq_true, Option.toList_some, Option.toList_none, List.cons_append, List.nil_append, at1, fbP_114_33, h1, O1, pt1, fbP_114_46, at0, fbP_114_59, h0, O0, pt0, fbP_114_72]
