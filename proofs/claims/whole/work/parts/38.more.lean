/-! ONE TICK MORE: what is known of a net does not change -/
theorem fl_pv_cg {g g' : Nat → Nat} (e : ∀ j, j < 76 → g' j = g j) {f : Nat} {v : Nat → Nat} {p : Nat} (hp : p < 20) : fl_pv g' f v p = fl_pv g f v p := by
  unfold fl_pv
  rw [e 0 (by omega), e (52 + p) (by omega)]
theorem fl_gt_cg {g g' : Nat → Nat} (w : fl_wf g) (e : ∀ j, j < 76 → g' j = g j) {f : Nat} {v : Nat → Nat} {k : Nat} (hk : g 1 ≤ k) (hk2 : k < g 0) : fl_gt g' f v k = fl_gt g f v k := by
  have w1 := w.1
  have wk := w.2.2.1 k hk hk2
  have key : ∀ z, fl_gn g' f v k z (g (28 + k)) = fl_gn g f v k z (g (28 + k)) := fun z => fl_cnt_congr fun i hi => by
    rw [e (16 + k) (by omega), fl_pv_cg e (by omega)]
  unfold fl_gt
  rw [e (4 + k) (by omega), e (28 + k) (by omega), key, key]
theorem fl_lay_cg {g g' : Nat → Nat} (w : fl_wf g) (e : ∀ j, j < 76 → g' j = g j) {f pt : Nat} {hd hd' : Nat → Nat} (hh : ∀ k, k < g 0 → hd' k = hd k) : ∀ k, k ≤ g 0 → fl_lay g' f pt hd' k = fl_lay g f pt hd k
  | 0, _ => rfl
  | k + 1, hk => by
    have w1 := w.1
    rw [fl_lay, fl_lay, fl_lay_cg w e hh k (by omega), e 1 (by omega), e (4 + k) (by omega), hh k (by omega)]
    by_cases c : k < g 1
    · rw [if_pos c, if_pos c]
    · rw [if_neg c, if_neg c, fl_gt_cg w e (by omega) (by omega)]
theorem fl_nh_cg {g g' : Nat → Nat} (w : fl_wf g) (e : ∀ j, j < 76 → g' j = g j) {f : Nat} {v : Nat → Nat} {k : Nat} (hk : k < g 0) : fl_nh g' f v k = fl_nh g f v k := by
  have w1 := w.1
  unfold fl_nh
  rw [e (4 + k) (by omega), e (16 + k) (by omega)]
  by_cases c : g (4 + k) = 8
  · have h1 : g 1 ≤ k := by
      by_cases l : k < g 1
      · have := w.2.1 k l; omega
      · omega
    have wk := w.2.2.1 k h1 hk
    rw [if_pos c, if_pos c, fl_pv_cg e (by omega)]
  · rw [if_neg c, if_neg c]
theorem fl_hd_cg {g g' : Nat → Nat} (w : fl_wf g) (e : ∀ j, j < 76 → g' j = g j) {f : Nat} {ps ps' : Nat → Nat} : ∀ t, (∀ i, i < t → ps' i = ps i) → ∀ k, k < g 0 → fl_hd g' f ps' t k = fl_hd g f ps t k
  | 0, _, k, hk => by
    have w1 := w.1
    exact e (40 + k) (by omega)
  | t + 1, hp, k, hk => by
    rw [fl_hd, fl_hd, e 0 (by omega), hp t (by omega), fl_lay_cg w e (fl_hd_cg w e t (fun i hi => hp i (by omega))) _ (Nat.le_refl _), fl_nh_cg w e hk]
theorem fl_vl_cg {g g' : Nat → Nat} (w : fl_wf g) (e : ∀ j, j < 76 → g' j = g j) {f : Nat} {ps ps' : Nat → Nat} {t : Nat} (hp : ∀ i, i ≤ t → ps' i = ps i) : fl_vl g' f ps' t = fl_vl g f ps t := by
  unfold fl_vl
  rw [e 0 (by omega), hp t (Nat.le_refl t)]
  exact fl_lay_cg w e (fl_hd_cg w e t (fun i hi => hp i (by omega))) _ (Nat.le_refl _)
theorem fl_sq_cg {g g' : Nat → Nat} (e : ∀ j, j < 76 → g' j = g j) {a b : Nat → Nat} {o : Nat} (ho : o < 4) : fl_sq g' a b o = fl_sq g a b o := by
  unfold fl_sq
  rw [e (72 + o) (by omega)]
theorem fl_shn_cg {g g' : Nat → Nat} (w : fl_wf g) (e : ∀ j, j < 76 → g' j = g j) {f : Nat} {ps ps' : Nat → Nat} {t : Nat} (hp : ∀ i, i ≤ t → ps' i = ps i) : fl_shn g' f ps' t = fl_shn g f ps t := by
  have w1 := w.1
  unfold fl_shn
  rw [fl_vl_cg w e hp, fl_vl_cg w e hp, e 3 (by omega)]
  exact fl_any_congr fun i hi => fl_sq_cg e (by omega)
/-- a net and its ticks, a tick more -/
def fl_t1 (g : Nat → Nat) (pt : Nat) : Nat → Nat := fl_up (fl_up (fl_up g (78 + g 76) pt) (102 + g 76) (g 77)) 76 (g 76 + 1)
section
variable {g : Nat → Nat} {pt : Nat}
theorem fl_t1_lt {j : Nat} (hj : j < 76) : fl_t1 g pt j = g j := by
  unfold fl_t1
  rw [fl_up_ne (by omega), fl_up_ne (by omega), fl_up_ne (by omega)]
theorem fl_t1_76 : fl_t1 g pt 76 = g 76 + 1 := by
  unfold fl_t1
  rw [fl_up_self]
theorem fl_t1_77 : fl_t1 g pt 77 = g 77 := by
  unfold fl_t1
  rw [fl_up_ne (by omega), fl_up_ne (by omega), fl_up_ne (by omega)]
theorem fl_t1_pt : fl_t1 g pt (78 + g 76) = pt := by
  unfold fl_t1
  rw [fl_up_ne (by omega), fl_up_ne (by omega), fl_up_self]
theorem fl_t1_ps {t : Nat} (ht : t < g 76) (hn : g 76 < 24) : fl_t1 g pt (78 + t) = g (78 + t) := by
  unfold fl_t1
  rw [fl_up_ne (by omega), fl_up_ne (by omega), fl_up_ne (by omega)]
theorem fl_t1_fl : fl_t1 g pt (102 + g 76) = g 77 := by
  unfold fl_t1
  rw [fl_up_ne (by omega), fl_up_self]
theorem fl_t1_fs {t : Nat} (ht : t < g 76) (hn : g 76 < 24) : fl_t1 g pt (102 + t) = g (102 + t) := by
  unfold fl_t1
  rw [fl_up_ne (by omega), fl_up_ne (by omega), fl_up_ne (by omega)]
theorem fl_t1_wf (w : fl_wf g) (hn : g 76 < 24) (hp : pt < 256) (hp2 : ∀ k, k < g 1 → pt / 4 ^ k % 4 ≤ 2) : fl_wf (fl_t1 g pt) := by
  have e : ∀ j, j < 76 → fl_t1 g pt j = g j := fun j hj => fl_t1_lt hj
  have w1 := w.1
  refine ⟨?_, ?_, ?_, ?_, ?_, ?_, ?_, ?_, ?_, ?_, ?_, ?_, ?_, ?_⟩
  · rw [e 0 (by omega), e 1 (by omega), e 2 (by omega), e 3 (by omega), fl_t1_76, fl_t1_77]; omega
  · rw [e 1 (by omega)]
    intro k hk
    rw [e (4 + k) (by omega), e (16 + k) (by omega), e (28 + k) (by omega), e (40 + k) (by omega)]
    exact w.2.1 k hk
  · rw [e 1 (by omega), e 0 (by omega), e 2 (by omega)]
    intro k hk hk2
    rw [e (4 + k) (by omega), e (16 + k) (by omega), e (28 + k) (by omega), e (40 + k) (by omega)]
    exact w.2.2.1 k hk hk2
  · rw [e 1 (by omega), e 0 (by omega)]
    intro k i hk hk2 h8 hi
    have wk := w.2.2.1 k hk hk2
    rw [e (28 + k) (by omega)] at hi
    rw [e (4 + k) (by omega)] at h8
    rw [e (16 + k) (by omega), e _ (by omega)]
    exact w.2.2.2.1 k i hk hk2 h8 hi
  · rw [e 0 (by omega), e 2 (by omega)]
    intro p hp; rw [e _ (by omega)]; exact w.2.2.2.2.1 p hp
  · rw [e 0 (by omega), e 3 (by omega)]
    intro j hj; rw [e _ (by omega)]; exact w.2.2.2.2.2.1 j hj
  · rw [e 3 (by omega)]
    intro i j hij hj; rw [e _ (by omega), e _ (by omega)]; exact w.2.2.2.2.2.2.1 i j hij hj
  · rw [fl_t1_76, e 1 (by omega)]
    intro t ht
    by_cases c : t = g 76
    · subst c
      rw [fl_t1_pt, fl_t1_fl]
      exact ⟨hp, by omega, hp2⟩
    · rw [fl_t1_ps (by omega) hn, fl_t1_fs (by omega) hn]
      exact w.2.2.2.2.2.2.2.1 t (by omega)
  · intro j hj
    have := w.2.2.2.2.2.2.2.2.1 j hj
    unfold fl_t1 fl_up
    repeat' split
    all_goals omega
  · rw [e 1 (by omega), e 0 (by omega)]
    intro hh; rw [e _ (by omega)]; exact w.2.2.2.2.2.2.2.2.2.1 hh
  · rw [e 1 (by omega), e 0 (by omega)]
    intro k hk hk2; rw [e _ (by omega), e _ (by omega), e _ (by omega)]; exact w.2.2.2.2.2.2.2.2.2.2.1 k hk hk2
  · rw [e 1 (by omega), e 0 (by omega), e 2 (by omega)]
    intro hh; rw [e _ (by omega), e _ (by omega)]; exact w.2.2.2.2.2.2.2.2.2.2.2.1 hh
  · rw [e 1 (by omega), e 0 (by omega), e 2 (by omega)]
    exact w.2.2.2.2.2.2.2.2.2.2.2.2.1
  · rw [e 0 (by omega), show fl_cnt (fun k => decide (fl_t1 g pt (4 + k) = 8)) (g 0) = fl_cnt (fun k => decide (g (4 + k) = 8)) (g 0) from fl_cnt_congr fun k hk => by rw [e _ (by omega)]]
    exact w.2.2.2.2.2.2.2.2.2.2.2.2.2
/-- the patterns of a run -/
def fl_ps (g : Nat → Nat) : Nat → Nat := fun t => g (78 + t)
theorem fl_t1_shn (w : fl_wf g) (hn : g 76 < 24) {f t : Nat} (ht : t < g 76) : fl_shn (fl_t1 g pt) f (fl_ps (fl_t1 g pt)) t = fl_shn g f (fl_ps g) t := fl_shn_cg w (fun _ hj => fl_t1_lt hj) (fun _ hi => fl_t1_ps (by omega) hn)
theorem fl_t1_dr (w : fl_wf g) (hn : g 76 < 24) {f t : Nat} (ht : t < g 76) : fl_dr (fl_t1 g pt) f (fl_ps (fl_t1 g pt)) t = fl_dr g f (fl_ps g) t := by
  unfold fl_dr
  rw [fl_t1_shn w hn ht, fl_t1_fs ht hn]
theorem fl_t1_any (w : fl_wf g) (hn : g 76 < 24) {f : Nat} : fl_any (fl_shn (fl_t1 g pt) f (fl_ps (fl_t1 g pt))) (g 76) = fl_any (fl_shn g f (fl_ps g)) (g 76) := fl_any_congr fun _ hi => fl_t1_shn w hn hi
theorem fl_t1_anyd (w : fl_wf g) (hn : g 76 < 24) {f : Nat} : fl_any (fl_dr (fl_t1 g pt) f (fl_ps (fl_t1 g pt))) (g 76) = fl_any (fl_dr g f (fl_ps g)) (g 76) := fl_any_congr fun _ hi => fl_t1_dr w hn hi
theorem fl_dr_sh {f n : Nat} {ps : Nat → Nat} (h : fl_any (fl_dr g f ps) n = true) : fl_any (fl_shn g f ps) n = true := by
  obtain ⟨t, ht, hd⟩ := fl_any_iff.mp h
  exact fl_any_iff.mpr ⟨t, ht, (Bool.and_eq_true_iff.mp hd).1⟩
/-- the values of the last tick, a dropped circuit's too -/
theorem fl_t1_fvl (w : fl_wf g) (hn : g 76 < 24) {f : Nat} : fl_fvl (fl_t1 g pt) f (fl_ps (fl_t1 g pt)) (g 76 + 1) = if fl_any (fl_dr g f (fl_ps g)) (g 76) = true then fl_vl (fl_t1 g pt) 64 (fl_ps (fl_t1 g pt)) (g 76) else fl_vl (fl_t1 g pt) f (fl_ps (fl_t1 g pt)) (g 76) := by
  unfold fl_fvl
  have key : fl_aw (fl_t1 g pt) f (fl_ps (fl_t1 g pt)) (g 76 + 1) = fl_any (fl_dr g f (fl_ps g)) (g 76) := by
    rw [← fl_t1_anyd (pt := pt) w hn]
    unfold fl_aw
    rcases Bool.eq_false_or_eq_true (fl_any (fl_dr (fl_t1 g pt) f (fl_ps (fl_t1 g pt))) (g 76)) with e | e
    · have := fl_frst_sp e
      have h2 := fl_frst_at this.2.2 this.2.1 (show fl_frst (fl_dr (fl_t1 g pt) f (fl_ps (fl_t1 g pt))) (g 76) < g 76 + 1 by omega)
      rw [h2.1, h2.2, e, decide_eq_true (by omega)]; rfl
    · rw [e]
      rcases Bool.eq_false_or_eq_true (fl_dr (fl_t1 g pt) f (fl_ps (fl_t1 g pt)) (g 76)) with e2 | e2
      · have h2 := fl_frst_at e e2 (show g 76 < g 76 + 1 by omega)
        rw [h2.1, h2.2, decide_eq_false (by omega)]; rfl
      · rw [fl_any, e, e2]; rfl
  rw [key, Nat.add_sub_cancel]
end
