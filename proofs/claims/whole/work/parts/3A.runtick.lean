/-! A TICK of a run of the class, as far as what is dropped -/
theorem fl_any_and {p : Bool} {q : Nat → Bool} : ∀ {n : Nat}, fl_any (fun j => p && q j) n = (p && fl_any q n)
  | 0 => by rw [fl_any, fl_any, Bool.and_false]
  | n + 1 => by rw [fl_any, fl_any, fl_any_and, Bool.and_or_distrib_left]
/-- the heap behind the tick of the bench -/
def fl_h1 (h : fl_H) (r : Nat) (g : Nat → Nat) (pt : Nat) : fl_H := fl_tc (fl_tc h (r + 14 + 1) g (fun _ => false) pt (fun _ => fl_hd g 64 (fl_ps g) (g 76))) (r + 14 + 10) g (fl_lx g) pt (fl_chn g)
def fl_sw (g : Nat → Nat) (pt c : Nat) : Bool := fl_lx g c && fl_shn (fl_t1 g pt) c (fl_ps (fl_t1 g pt)) (g 76)
def fl_fr (g : Nat → Nat) (pt c : Nat) : Bool := fl_sw g pt c && !fl_any (fl_shn g c (fl_ps g)) (g 76)
section
variable {k0 : Nat → Nat × Nat} {h : fl_H} {g : Nat → Nat} {r pt : Nat} {s : Int64}
theorem fl_h1_lo {q : Nat} (hq : q < r + 17 ∨ r + 32 < q) : fl_l (fl_h1 h r g pt) q = fl_l h q := by
  unfold fl_h1
  rw [fl_tc_lo (by omega) (by omega) (by omega) (by omega), fl_tc_lo (by omega) (by omega) (by omega) (by omega)]
theorem fl_h1_k : fl_k (fl_h1 h r g pt) = fl_k h := by unfold fl_h1; rw [fl_k_tc, fl_k_tc]
theorem fl_h1_r : fl_r (fl_h1 h r g pt) = fl_r h := by unfold fl_h1; rw [fl_r_tc, fl_r_tc]
theorem fl_h1_i : fl_i (fl_h1 h r g pt) = fl_i h := by unfold fl_h1; rw [fl_i_tc, fl_i_tc]
theorem fl_h1_1 : (fl_h1 h r g pt).1 = h.1 := by unfold fl_h1; rw [fl_1_tc, fl_1_tc]
theorem fl_chn_le (w : fl_wf g) (c k : Nat) (hk : k < g 0) : fl_chn g c k ≤ 2 := by
  have ok := fl_okp_g w
  unfold fl_chn fl_fhd
  repeat' split
  all_goals exact fl_hd_le w ok _ (Nat.le_refl _) k hk
theorem fl_h1_g1 {k : Nat} (hk : k < g 0) (w : fl_wf g) (hn : g 76 < 24) : fl_l (fl_h1 h r g pt) (r + 14 + 1 + 2) k = fl_B (fun _ => decide (fl_vl (fl_t1 g pt) 64 (fl_ps (fl_t1 g pt)) (g 76) k = 1)) := by
  unfold fl_h1
  rw [fl_tc_lo (by omega) (by omega) (by omega) (by omega), fl_tc_1 hk, fl_gv1 w hn]
  rfl
theorem fl_h1_g0 {k : Nat} (hk : k < g 0) (w : fl_wf g) (hn : g 76 < 24) : fl_l (fl_h1 h r g pt) (r + 14 + 1 + 4) k = fl_B (fun _ => decide (fl_vl (fl_t1 g pt) 64 (fl_ps (fl_t1 g pt)) (g 76) k = 0)) := by
  unfold fl_h1
  rw [fl_tc_lo (by omega) (by omega) (by omega) (by omega), fl_tc_0 hk, fl_gv1 w hn]
  rfl
theorem fl_h1_b1 {k : Nat} (hk : k < g 0) : fl_l (fl_h1 h r g pt) (r + 14 + 10 + 2) k = fl_B (fun c => decide (fl_lay g (fl_fa (fl_lx g) c) pt (fl_chn g c) (g 0) k = 1)) := fl_tc_1 hk
theorem fl_h1_b0 {k : Nat} (hk : k < g 0) : fl_l (fl_h1 h r g pt) (r + 14 + 10 + 4) k = fl_B (fun c => decide (fl_lay g (fl_fa (fl_lx g) c) pt (fl_chn g c) (g 0) k = 0)) := fl_tc_0 hk
theorem fl_h1_dl (w : fl_wf g) (hn : g 76 < 24) (hp : pt < 256) (hp2 : ∀ k, k < g 1 → pt / 4 ^ k % 4 ≤ 2) {j : Nat} (hj : j < g 3) : fl_dl (fl_h1 h r g pt) (r + 14) (g (72 + j)) = fl_B (fun c => fl_lx g c && fl_sq (fl_t1 g pt) (fl_vl (fl_t1 g pt) 64 (fl_ps (fl_t1 g pt)) (g 76)) (fl_vl (fl_t1 g pt) c (fl_ps (fl_t1 g pt)) (g 76)) j) := by
  have hk := w.2.2.2.2.2.1 j hj
  unfold fl_dl
  rw [fl_h1_g1 hk w hn, fl_h1_g0 hk w hn, fl_h1_b1 hk, fl_h1_b0 hk, fl_gv1 w hn, fl_B_and, fl_B_and, fl_B_or]
  refine fl_B_congr fun c _ => ?_
  have e := fl_shw1 (pt := pt) w hn hp hp2 (c := c) hj
  rw [fl_gv1 (f := 64) w hn] at e
  exact e
theorem fl_h1_sh (w : fl_wf g) (hn : g 76 < 24) (hp : pt < 256) (hp2 : ∀ k, k < g 1 → pt / 4 ^ k % 4 ≤ 2) : fl_bo (fun j => fl_dl (fl_h1 h r g pt) (r + 14) (g (72 + j))) (g 3) = fl_B (fl_sw g pt) := by
  rw [fl_bo_B (fun j hj => fl_h1_dl w hn hp hp2 hj)]
  refine fl_B_congr fun c _ => ?_
  rw [fl_any_and]
  unfold fl_sw fl_shn
  rw [fl_t1_lt (g := g) (pt := pt) (show 3 < 76 by omega)]
theorem fl_bo_congr {F F' : Nat → Int64} : ∀ {n : Nat}, (∀ j, j < n → F j = F' j) → fl_bo F n = fl_bo F' n
  | 0, _ => rfl
  | n + 1, e => by rw [fl_bo, fl_bo, fl_bo_congr (fun j hj => e j (by omega)), e n (by omega)]
theorem fl_h1_os (w : fl_wf g) (hn : g 76 < 24) (hp : pt < 256) (hp2 : ∀ k, k < g 1 → pt / 4 ^ k % 4 ≤ 2) {f : Nat} (hf : f < 64) (hl : fl_lx g f = true) : fl_os (fl_h1 h r g pt) (r + 14) g f = fl_shl (fl_t1 g pt) f (fl_ps (fl_t1 g pt)) (g 76) := by
  have w1 := w.1
  unfold fl_os fl_shl
  rw [fl_t1_lt (g := g) (pt := pt) (show 3 < 76 by omega)]
  refine fl_bo_congr fun j hj => ?_
  rw [fl_h1_dl w hn hp hp2 hj, fl_hb_B _ hf, hl, Bool.true_and, fl_t1_lt (show 72 + j < 76 by omega)]
/-- behind the note -/
def fl_h2 (h : fl_H) (r : Nat) (g : Nat → Nat) (pt : Nat) : fl_H := fl_wl (fl_ww (fl_h1 h r g pt) (r + 36) (r + 38) (fl_qq (fl_fr g pt) (fun _ => Int32.toInt64 (fl_i h r 3)) (fl_l h (r + 36)) 64) (fl_qq (fl_fr g pt) (fl_os (fl_h1 h r g pt) (r + 14) g) (fl_l h (r + 38)) 64)) r (fl_up (fl_l h r) 5 (fl_l h r 5 ||| fl_B (fl_fr g pt)))
theorem fl_h2_k : fl_k (fl_h2 h r g pt) = fl_k h := by unfold fl_h2; rw [fl_k_wl, fl_k_ww, fl_h1_k]
theorem fl_h2_rr : fl_r (fl_h2 h r g pt) = fl_r h := by unfold fl_h2; rw [fl_r_wl, fl_r_ww, fl_h1_r]
theorem fl_h2_i : fl_i (fl_h2 h r g pt) = fl_i h := by unfold fl_h2; rw [fl_i_wl, fl_i_ww, fl_h1_i]
theorem fl_h2_1 : (fl_h2 h r g pt).1 = h.1 := by unfold fl_h2; rw [fl_1_wl, fl_1_ww, fl_h1_1]
theorem fc_124a (hg : fl_g k0 h) (rr : fl_isR k0 r) (w : fl_wf g) (d : fl_rn h r g s) (hn : g 76 < 24) (hp : pt < 256) (hp2 : ∀ k, k < g 1 → pt / 4 ^ k % 4 ≤ 2) :
    fl_cl fl_C 124 [.ref r, .int (Int32.ofNat pt)] h = fl_ca fl_C 124 54 [some (.ref r), some (.int (Int32.ofNat pt)), some (.long (fl_B (fl_sw g pt)))] [] [] (some (some none, fl_h2 h r g pt)) := by
  have ok := fl_okp_g w
  have e110 := fc_110 hg rr.2.1 w d.1
  have eL : fl_B (fun c => decide (c < 2 * (g 0 + g 2))) &&& (fl_l h r 6 ^^^ (-1)) = fl_B (fl_lx g) := by
    rw [d.2.2.1.2.1, fl_B_m1, fl_B_xor, fl_B_and]
    refine fl_B_congr fun c _ => ?_
    unfold fl_lx
    rcases Bool.eq_false_or_eq_true (decide (c < 2 * (g 0 + g 2))) with e | e <;> rw [e] <;> rcases Bool.eq_false_or_eq_true (fl_any (fl_dr g c (fl_ps g)) (g 76)) with e' | e' <;> rw [e'] <;> rfl
  have e116 : fl_cl fl_C 116 [.ref (r + 14), .ref (r + 1), .int (Int32.ofNat pt), .long (fl_B (fl_lx g))] h = some (some none, fl_h1 h r g pt) := fc_116 hg rr.2.1 rr.2.2.1 w d.1 (by omega) hp hp2 (fl_lx g) (fun _ => fl_hd g 64 (fl_ps g) (g 76)) (fl_chn g) (fun _ k hk => fl_hd_le w ok _ (Nat.le_refl _) k hk) (fun c k hk => fl_chn_le w c k hk) (fun k hk h8 => (d.2.2.2.2.2.2 k hk h8).1) (fun k hk h8 => (d.2.2.2.2.2.2 k hk h8).2)
  have hg1 : fl_g k0 (fl_h1 h r g pt) := ⟨fl_h1_k.trans hg.1, fl_h1_r.trans hg.2⟩
  have d1 : fl_net (fl_h1 h r g pt) (r + 1) g := fl_net_fr d.1 rfl (fun b h1 h2 => fl_h1_lo (by omega))
  have e119 := fc_119 hg1 rr.2.2.1 rr.2.1 w d1
  rw [fl_h1_sh w hn hp hp2] at e119
  have lr : fl_l (fl_h1 h r g pt) r = fl_l h r := fl_h1_lo (by omega)
  have eF : fl_B (fl_sw g pt) &&& (fl_l (fl_h1 h r g pt) r 5 ^^^ (-1)) = fl_B (fl_fr g pt) := by
    rw [lr, d.2.2.1.1, fl_B_m1, fl_B_xor, fl_B_and]
    refine fl_B_congr fun c _ => ?_
    unfold fl_fr fl_sw fl_lx
    rcases Bool.eq_false_or_eq_true (decide (c < 2 * (g 0 + g 2))) with e | e <;> rw [e] <;> rcases Bool.eq_false_or_eq_true (fl_any (fl_shn g c (fl_ps g)) (g 76)) with e' | e' <;> rw [e'] <;> simp
  have e122 := fc_122 hg1 rr w d1 (fl_fr g pt)
  rw [lr, fl_h1_lo (q := r + 36) (by omega), fl_h1_lo (q := r + 38) (by omega), fl_h1_i] at e122
  have e122' : fl_cl fl_C 122 [.ref r, .long (fl_B (fl_fr g pt))] (fl_h1 h r g pt) = some (some none, fl_h2 h r g pt) := by
    unfold fl_h2
    exact e122
  have k1 : fl_k (fl_h1 h r g pt) = fl_KK k0 := hg1.1
  have r1 : fl_r (fl_h1 h r g pt) = fl_RR := hg1.2
  clear w d ok e122 d1 hp2 lr
  rw [fbE_124]
  simp (disch := omega) only [hg.1, hg.2, rr.1, rr.2.1.1, rr.2.2.1.1, fl_lit, fl_nadd, fl_nmul, fl_ndiv, fl_nsub, fl_msub, fl_nle, fl_nlt, fl_neq, fl_nclamp, fl_nin, fl_ltT, fl_ltF, fl_leT, fl_leF, fl_eqT, fl_eqF, decide_true, decide_false, Bool.true_and, Bool.and_true, Bool.false_and, Bool.and_false, if_true, if_false, Bool.false_eq_true, Option.isSome_some, Option.getD_some, not_true_eq_false, not_false_eq_true, Option.toList_some, Option.toList_none, List.cons_append, List.nil_append, e110, fbP_124_16, eL, e116, fbP_124_28, k1, r1, e119, fbP_124_39, eF, e122']
end
