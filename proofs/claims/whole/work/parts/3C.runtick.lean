/-! A TICK of a run keeps what is kept of it -/
section
variable {k0 : Nat → Nat × Nat} {h : fl_H} {g : Nat → Nat} {r pt : Nat} {s : Int64}
theorem fl_h4_i : fl_i (fl_h4 h r g pt) r = fl_up (fl_i h r) 3 (Int32.ofNat (g 76 + 1)) := by
  unfold fl_h4
  rw [fl_i_wi, if_pos rfl]
theorem fl_h4_io {q : Nat} (hq : q ≠ r) : fl_i (fl_h4 h r g pt) q = fl_i h q := by
  unfold fl_h4
  rw [fl_i_wi, if_neg hq, fl_i_wl, fl_h3_i]
theorem fl_h4_34 : fl_l (fl_h4 h r g pt) (r + 34) = fl_up (fl_l h (r + 34)) (g 76) (Int64.ofNat pt) := by
  unfold fl_h4
  rw [fl_l_wi, fl_l_wl, if_pos rfl]
theorem fl_h4_lo {q : Nat} (h0 : q ≠ r) (h34 : q ≠ r + 34) (h6 : q ≠ r + 14 + 10 + 6) (h8 : q ≠ r + 14 + 10 + 8) : fl_l (fl_h4 h r g pt) q = fl_l (fl_h2 h r g pt) q := by
  unfold fl_h4
  rw [fl_l_wi, fl_l_wl, if_neg h34, fl_h3_lo h0 h6 h8]
theorem fl_h4_36 : fl_l (fl_h4 h r g pt) (r + 36) = fl_qq (fl_fr g pt) (fun _ => Int32.toInt64 (fl_i h r 3)) (fl_l h (r + 36)) 64 := by
  rw [fl_h4_lo (by omega) (by omega) (by omega) (by omega)]
  unfold fl_h2
  rw [fl_l_wl, if_neg (by omega), fl_ww_la (by omega)]
theorem fl_h4_38 : fl_l (fl_h4 h r g pt) (r + 38) = fl_qq (fl_fr g pt) (fl_os (fl_h1 h r g pt) (r + 14) g) (fl_l h (r + 38)) 64 := by
  rw [fl_h4_lo (by omega) (by omega) (by omega) (by omega)]
  unfold fl_h2
  rw [fl_l_wl, if_neg (by omega), fl_ww_lb]
theorem fl_h4_r : fl_l (fl_h4 h r g pt) r = if g 77 = 0 then fl_up (fl_l h r) 5 (fl_l h r 5 ||| fl_B (fl_fr g pt)) else fl_up (fl_up (fl_l h r) 5 (fl_l h r 5 ||| fl_B (fl_fr g pt))) 6 (fl_l h r 6 ||| fl_B (fl_sw g pt)) := by
  unfold fl_h4
  rw [fl_l_wi, fl_l_wl, if_neg (by omega)]
  unfold fl_h3
  by_cases c : g 77 = 0
  · rw [if_pos c, if_pos c, fl_h2_r]
  · rw [if_neg c, if_neg c, fl_ww_lo (by omega) (by omega)]
    unfold fl_h3a
    rw [fl_l_wl, if_pos rfl, fl_h2_r, fl_up_ne (show 6 ≠ 5 by omega)]
theorem fl_hd1 (w : fl_wf g) (hn : g 76 < 24) {f k : Nat} (hk : k < g 0) : fl_hd (fl_t1 g pt) f (fl_ps (fl_t1 g pt)) (g 76 + 1) k = fl_nh g f (fl_lay g f pt (fl_hd g f (fl_ps g) (g 76)) (g 0)) k := by
  rw [fl_hd, ← fl_gv1 w hn, ← fl_nh_cg (g' := fl_t1 g pt) w (fun _ hj => fl_t1_lt hj) hk]
  rfl
/-- what a circuit holds behind the tick, if nothing is dropped by it -/
theorem fl_bh1 (w : fl_wf g) (hn : g 76 < 24) {c k : Nat} (hk : k < g 0) : fl_nh g (fl_fa (fl_lx g) c) (fl_lay g (fl_fa (fl_lx g) c) pt (fl_chn g c) (g 0)) k = if fl_lx g c = true then fl_hd (fl_t1 g pt) c (fl_ps (fl_t1 g pt)) (g 76 + 1) k else fl_hd (fl_t1 g pt) 64 (fl_ps (fl_t1 g pt)) (g 76 + 1) k := by
  rw [fl_hd1 w hn hk, fl_hd1 w hn hk]
  unfold fl_fa fl_lx fl_chn fl_fhd
  by_cases c1 : c < 2 * (g 0 + g 2)
  · rw [decide_eq_true c1, Bool.true_and, if_pos c1]
    rcases Bool.eq_false_or_eq_true (fl_any (fl_dr g c (fl_ps g)) (g 76)) with e | e <;> rw [e] <;> rfl
  · rw [decide_eq_false c1, Bool.false_and, if_neg c1]; rfl
theorem fl_dr1 {c : Nat} : fl_dr (fl_t1 g pt) c (fl_ps (fl_t1 g pt)) (g 76) = (fl_shn (fl_t1 g pt) c (fl_ps (fl_t1 g pt)) (g 76) && decide (g 77 = 1)) := by
  unfold fl_dr
  rw [fl_t1_fl]
theorem fl_anyd1 (w : fl_wf g) (hn : g 76 < 24) {c : Nat} : fl_any (fl_dr (fl_t1 g pt) c (fl_ps (fl_t1 g pt))) (g 76 + 1) = (fl_any (fl_dr g c (fl_ps g)) (g 76) || (fl_shn (fl_t1 g pt) c (fl_ps (fl_t1 g pt)) (g 76) && decide (g 77 = 1))) := by
  rw [fl_any, fl_t1_anyd w hn, fl_dr1]
theorem fl_anys1 (w : fl_wf g) (hn : g 76 < 24) {c : Nat} : fl_any (fl_shn (fl_t1 g pt) c (fl_ps (fl_t1 g pt))) (g 76 + 1) = (fl_any (fl_shn g c (fl_ps g)) (g 76) || fl_shn (fl_t1 g pt) c (fl_ps (fl_t1 g pt)) (g 76)) := by
  rw [fl_any, fl_t1_any w hn]
theorem fl_chn1 (w : fl_wf g) (hn : g 76 < 24) {c k : Nat} : fl_chn (fl_t1 g pt) c k = if decide (c < 2 * (g 0 + g 2)) && !(fl_any (fl_dr g c (fl_ps g)) (g 76) || (fl_shn (fl_t1 g pt) c (fl_ps (fl_t1 g pt)) (g 76) && decide (g 77 = 1))) then fl_hd (fl_t1 g pt) c (fl_ps (fl_t1 g pt)) (g 76 + 1) k else fl_hd (fl_t1 g pt) 64 (fl_ps (fl_t1 g pt)) (g 76 + 1) k := by
  unfold fl_chn fl_fhd
  rw [fl_t1_lt (show 0 < 76 by omega), fl_t1_lt (show 2 < 76 by omega), fl_t1_76, fl_anyd1 w hn]
  by_cases c1 : c < 2 * (g 0 + g 2)
  · rw [decide_eq_true c1, if_pos c1, Bool.true_and]
    generalize (fl_any (fl_dr g c (fl_ps g)) (g 76) || (fl_shn (fl_t1 g pt) c (fl_ps (fl_t1 g pt)) (g 76) && decide (g 77 = 1))) = b
    cases b <;> rfl
  · rw [decide_eq_false c1, if_neg c1, Bool.false_and]; rfl
theorem fl_shl1 (w : fl_wf g) (hn : g 76 < 24) {f t : Nat} (ht : t < g 76) : fl_shl (fl_t1 g pt) f (fl_ps (fl_t1 g pt)) t = fl_shl g f (fl_ps g) t := by
  have w1 := w.1
  unfold fl_shl
  have ev : ∀ f, fl_vl (fl_t1 g pt) f (fl_ps (fl_t1 g pt)) t = fl_vl g f (fl_ps g) t := fun f => fl_vl_cg w (fun _ hj => fl_t1_lt hj) (fun i hi => fl_t1_ps (by omega) hn)
  rw [ev, ev, fl_t1_lt (show 3 < 76 by omega)]
  refine fl_bo_congr fun j hj => ?_
  rw [fl_sq_cg (g := g) (fun _ hj => fl_t1_lt hj) (by omega), fl_t1_lt (show 72 + j < 76 by omega)]
/-- registers hold -/
theorem fl_h4_h (w : fl_wf g) (hn : g 76 < 24) {z : Nat} (hz : z = 6 ∨ z = 8) {k : Nat} (hk : k < g 0) (h8 : g (4 + k) = 8) : fl_l (fl_h4 h r g pt) (r + 14 + 1 + z) k = fl_B (fun _ => decide (fl_hd (fl_t1 g pt) 64 (fl_ps (fl_t1 g pt)) (g 76 + 1) k = if z = 6 then 1 else 0)) ∧ fl_l (fl_h4 h r g pt) (r + 14 + 10 + z) k = fl_B (fun c => decide (fl_chn (fl_t1 g pt) c k = if z = 6 then 1 else 0)) := by
  have w1 := w.1
  have w7 : g 77 ≤ 1 := by omega
  have k1 : g 1 ≤ k := by
    by_cases l : k < g 1
    · have := w.2.1 k l; omega
    · omega
  have good : fl_l (fl_h1 h r g pt) (r + 14 + 1 + z) k = fl_B (fun _ => decide (fl_hd (fl_t1 g pt) 64 (fl_ps (fl_t1 g pt)) (g 76 + 1) k = if z = 6 then 1 else 0)) := by
    unfold fl_h1
    rw [fl_tc_lo (by omega) (by omega) (by omega) (by omega), fl_hd1 w hn hk]
    rcases hz with rfl | rfl
    · rw [fl_tc_h1 ⟨k1, hk, h8⟩]; rfl
    · rw [fl_tc_h0 ⟨k1, hk, h8⟩]; rfl
  have bad : fl_l (fl_h1 h r g pt) (r + 14 + 10 + z) k = fl_B (fun c => decide ((if fl_lx g c = true then fl_hd (fl_t1 g pt) c (fl_ps (fl_t1 g pt)) (g 76 + 1) k else fl_hd (fl_t1 g pt) 64 (fl_ps (fl_t1 g pt)) (g 76 + 1) k) = if z = 6 then 1 else 0)) := by
    unfold fl_h1
    rcases hz with rfl | rfl
    · rw [fl_tc_h1 ⟨k1, hk, h8⟩]
      exact fl_B_congr fun c _ => by rw [fl_bh1 w hn hk]; rfl
    · rw [fl_tc_h0 ⟨k1, hk, h8⟩]
      exact fl_B_congr fun c _ => by rw [fl_bh1 w hn hk]; rfl
  refine ⟨?_, ?_⟩
  · rw [fl_h4_lo (by omega) (by omega) (by omega) (by omega), fl_h2_lo (by omega) (by omega) (by omega)]
    exact good
  · have e4 : fl_l (fl_h4 h r g pt) (r + 14 + 10 + z) = fl_l (fl_h3 h r g pt) (r + 14 + 10 + z) := by
      unfold fl_h4
      rw [fl_l_wi, fl_l_wl, if_neg (by omega)]
    rw [e4]
    unfold fl_h3
    by_cases c : g 77 = 0
    · rw [if_pos c, fl_h2_lo (by omega) (by omega) (by omega), bad]
      refine fl_B_congr fun c' _ => ?_
      rw [fl_chn1 w hn, c]
      unfold fl_lx
      simp
    · rw [if_neg c]
      have e7 : g 77 = 1 := by omega
      have ga : fl_l (fl_h3a h r g pt) (r + 14 + 1 + z) k = fl_B (fun _ => decide (fl_hd (fl_t1 g pt) 64 (fl_ps (fl_t1 g pt)) (g 76 + 1) k = if z = 6 then 1 else 0)) := by
        rw [fl_h3a_lo (by omega), fl_h2_lo (by omega) (by omega) (by omega)]
        exact good
      have ba : fl_l (fl_h3a h r g pt) (r + 14 + 10 + z) k = fl_B (fun c => decide ((if fl_lx g c = true then fl_hd (fl_t1 g pt) c (fl_ps (fl_t1 g pt)) (g 76 + 1) k else fl_hd (fl_t1 g pt) 64 (fl_ps (fl_t1 g pt)) (g 76 + 1) k) = if z = 6 then 1 else 0)) := by
        rw [fl_h3a_lo (by omega), fl_h2_lo (by omega) (by omega) (by omega)]
        exact bad
      have arr : fl_l (fl_ww (fl_h3a h r g pt) (r + 14 + 10 + 6) (r + 14 + 10 + 8) (fl_al 12 (fun j => (fl_l (fl_h3a h r g pt) (r + 14 + 10 + 6) j &&& (fl_B (fl_sw g pt) ^^^ (-1))) ||| (fl_l (fl_h3a h r g pt) (r + 14 + 1 + 6) j &&& fl_B (fl_sw g pt))) (fl_l (fl_h3a h r g pt) (r + 14 + 10 + 6))) (fl_al 12 (fun j => (fl_l (fl_h3a h r g pt) (r + 14 + 10 + 8) j &&& (fl_B (fl_sw g pt) ^^^ (-1))) ||| (fl_l (fl_h3a h r g pt) (r + 14 + 1 + 8) j &&& fl_B (fl_sw g pt))) (fl_l (fl_h3a h r g pt) (r + 14 + 10 + 8)))) (r + 14 + 10 + z) k = (fl_l (fl_h3a h r g pt) (r + 14 + 10 + z) k &&& (fl_B (fl_sw g pt) ^^^ (-1))) ||| (fl_l (fl_h3a h r g pt) (r + 14 + 1 + z) k &&& fl_B (fl_sw g pt)) := by
        rcases hz with rfl | rfl
        · rw [fl_ww_la (by omega), fl_al_lt (by omega)]
        · rw [fl_ww_lb, fl_al_lt (by omega)]
      rw [arr, ga, ba, fl_B_m1, fl_B_xor, fl_B_and, fl_B_and, fl_B_or]
      refine fl_B_congr fun c' _ => ?_
      rw [fl_chn1 w hn, e7]
      unfold fl_sw fl_lx
      generalize decide (c' < 2 * (g 0 + g 2)) = b1
      generalize fl_any (fl_dr g c' (fl_ps g)) (g 76) = b2
      generalize fl_shn (fl_t1 g pt) c' (fl_ps (fl_t1 g pt)) (g 76) = b3
      cases b1 <;> cases b2 <;> cases b3 <;> simp
end
