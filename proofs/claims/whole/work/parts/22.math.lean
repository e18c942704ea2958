/-! THE MATHEMATICS OF A RUN. g: what is kept of a net and its ticks, as natural numbers (0 lines, 1 inputs, 2 pins, 3 outputs, 4 sorts, 16 firsts, 28 widths, 40 starts, 52 what pins read, 72 outputs, 76 ticks, 77 dropping, 78 patterns, 102 flags); fault 64: none; v: the values of lines -/
/-- how many below n -/
def fl_cnt (q : Nat → Bool) : Nat → Nat
  | 0 => 0
  | n + 1 => fl_cnt q n + (q n).toNat
theorem fl_cnt_congr {q q' : Nat → Bool} : ∀ {n : Nat}, (∀ i, i < n → q i = q' i) → fl_cnt q n = fl_cnt q' n
  | 0, _ => rfl
  | n + 1, h => by rw [fl_cnt, fl_cnt, fl_cnt_congr (fun i hi => h i (by omega)), h n (by omega)]
theorem fl_cnt_le {q : Nat → Bool} : ∀ n : Nat, fl_cnt q n ≤ n
  | 0 => Nat.le_refl 0
  | n + 1 => by
    have := fl_cnt_le (q := q) n
    rw [fl_cnt]
    cases q n <;> simp <;> omega
/-- what a pin gives -/
def fl_pv (g : Nat → Nat) (f : Nat) (v : Nat → Nat) (p : Nat) : Nat := if f = 2 * (g 0 + p) then 0 else if f = 2 * (g 0 + p) + 1 then 1 else v (g (52 + p))
def fl_gr (s w a b : Nat) : Nat := if s = 3 ∨ s = 6 then (if 0 < a then 0 else if a + b = w then 1 else 2) else if s = 4 ∨ s = 7 then (if 0 < b then 1 else if a + b = w then 0 else 2) else (if a + b = w then b % 2 else 2)
def fl_gx (s x : Nat) : Nat := if (s = 1 ∨ s = 6 ∨ s = 7) ∧ x < 2 then 1 - x else x
def fl_gn (g : Nat → Nat) (f : Nat) (v : Nat → Nat) (k z n : Nat) : Nat := fl_cnt (fun i => decide (fl_pv g f v (g (16 + k) + i) = z)) n
/-- what a gate gives -/
def fl_gt (g : Nat → Nat) (f : Nat) (v : Nat → Nat) (k : Nat) : Nat := fl_gx (g (4 + k)) (fl_gr (g (4 + k)) (g (28 + k)) (fl_gn g f v k 0 (g (28 + k))) (fl_gn g f v k 1 (g (28 + k))))
def fl_stk (f k x : Nat) : Nat := if f = 2 * k then 0 else if f = 2 * k + 1 then 1 else x
/-- the values of the lines below a number, one behind another -/
def fl_lay (g : Nat → Nat) (f pt : Nat) (hd : Nat → Nat) : Nat → Nat → Nat
  | 0 => fun _ => 0
  | k + 1 => fl_up (fl_lay g f pt hd k) k (fl_stk f k (if k < g 1 then pt / 4 ^ k % 4 else if g (4 + k) = 8 then hd k else fl_gt g f (fl_lay g f pt hd k) k))
/-- what registers hold behind a tick -/
def fl_nh (g : Nat → Nat) (f : Nat) (v : Nat → Nat) (k : Nat) : Nat := if g (4 + k) = 8 then fl_pv g f v (g (16 + k)) else 2
/-- what registers hold ahead of a tick of a row of patterns -/
def fl_hd (g : Nat → Nat) (f : Nat) (ps : Nat → Nat) : Nat → Nat → Nat
  | 0 => fun k => g (40 + k)
  | t + 1 => fl_nh g f (fl_lay g f (ps t) (fl_hd g f ps t) (g 0))
/-- the values of a tick -/
def fl_vl (g : Nat → Nat) (f : Nat) (ps : Nat → Nat) (t : Nat) : Nat → Nat := fl_lay g f (ps t) (fl_hd g f ps t) (g 0)
theorem fl_lay_st {g : Nat → Nat} {f pt : Nat} {hd : Nat → Nat} {j : Nat} : ∀ {k : Nat}, j < k → fl_lay g f pt hd k j = fl_lay g f pt hd (j + 1) j
  | 0, h => by omega
  | k + 1, h => by
    by_cases e : j = k
    · rw [e]
    · rw [← fl_lay_st (show j < k by omega)]
      exact fl_up_ne e
theorem fl_pv_congr {g : Nat → Nat} {f : Nat} {v v' : Nat → Nat} {p : Nat} (h : v (g (52 + p)) = v' (g (52 + p))) : fl_pv g f v p = fl_pv g f v' p := by
  unfold fl_pv; rw [h]
theorem fl_gt_congr {g : Nat → Nat} {f : Nat} {v v' : Nat → Nat} {k : Nat} (h : ∀ i, i < g (28 + k) → v (g (52 + (g (16 + k) + i))) = v' (g (52 + (g (16 + k) + i)))) : fl_gt g f v k = fl_gt g f v' k := by
  have key : ∀ z, fl_gn g f v k z (g (28 + k)) = fl_gn g f v' k z (g (28 + k)) := by
    intro z
    exact fl_cnt_congr (fun i hi => by rw [fl_pv_congr (h i hi)])
  unfold fl_gt
  rw [key 0, key 1]
theorem fl_pv_le {g : Nat → Nat} {f : Nat} {v : Nat → Nat} {p : Nat} (h : v (g (52 + p)) ≤ 2) : fl_pv g f v p ≤ 2 := by
  unfold fl_pv
  repeat' split
  all_goals omega
theorem fl_gr_le (s w a b : Nat) : fl_gr s w a b ≤ 2 := by
  unfold fl_gr
  repeat' split
  all_goals omega
theorem fl_gx_le {s x : Nat} (h : x ≤ 2) : fl_gx s x ≤ 2 := by
  unfold fl_gx
  split <;> omega
theorem fl_gt_le (g : Nat → Nat) (f : Nat) (v : Nat → Nat) (k : Nat) : fl_gt g f v k ≤ 2 := fl_gx_le (fl_gr_le _ _ _ _)
theorem fl_stk_le {f k x : Nat} (h : x ≤ 2) : fl_stk f k x ≤ 2 := by
  unfold fl_stk
  repeat' split
  all_goals omega
/-- what all nets and ticks keep to -/
abbrev fl_wf (g : Nat → Nat) : Prop :=
  (1 ≤ g 1 ∧ g 1 ≤ 4 ∧ g 1 ≤ g 0 ∧ g 0 ≤ 12 ∧ g 2 ≤ 20 ∧ 1 ≤ g 3 ∧ g 3 ≤ 4 ∧ g 76 ≤ 24 ∧ g 77 ≤ 1) ∧
  (∀ k, k < g 1 → g (4 + k) = 0 ∧ g (16 + k) = 0 ∧ g (28 + k) = 0 ∧ g (40 + k) = 2) ∧
  (∀ k, g 1 ≤ k → k < g 0 → 1 ≤ g (4 + k) ∧ g (4 + k) ≤ 8 ∧ 1 ≤ g (28 + k) ∧ g (28 + k) ≤ 3 ∧ g (16 + k) + g (28 + k) ≤ g 2 ∧ g (40 + k) ≤ 2 ∧ (g (4 + k) ≠ 8 → g (40 + k) = 2) ∧ ((g (4 + k) = 1 ∨ g (4 + k) = 2 ∨ g (4 + k) = 8) ↔ g (28 + k) = 1)) ∧
  (∀ k i, g 1 ≤ k → k < g 0 → g (4 + k) ≠ 8 → i < g (28 + k) → g (52 + (g (16 + k) + i)) < k) ∧
  (∀ p, p < g 2 → g (52 + p) < g 0) ∧ (∀ j, j < g 3 → g (72 + j) < g 0) ∧ (∀ i j, i < j → j < g 3 → g (72 + i) ≠ g (72 + j)) ∧
  (∀ t, t < g 76 → g (78 + t) < 256 ∧ g (102 + t) ≤ 1 ∧ ∀ k, k < g 1 → g (78 + t) / 4 ^ k % 4 ≤ 2) ∧
  (∀ j, j < 126 → g j < 256) ∧
  (g 1 < g 0 → g (16 + g 1) = 0) ∧ (∀ k, g 1 ≤ k → k + 1 < g 0 → g (16 + (k + 1)) = g (16 + k) + g (28 + k)) ∧ (g 1 < g 0 → g (16 + (g 0 - 1)) + g (28 + (g 0 - 1)) = g 2) ∧ (g 1 = g 0 → g 2 = 0) ∧
  fl_cnt (fun k => decide (g (4 + k) = 8)) (g 0) ≤ 3
theorem fl_lay_le {g : Nat → Nat} {f pt : Nat} {hd : Nat → Nat} (hp : ∀ k, k < g 1 → pt / 4 ^ k % 4 ≤ 2) (hh : ∀ k, k < g 0 → hd k ≤ 2) : ∀ (k j : Nat), k ≤ g 0 → fl_lay g f pt hd k j ≤ 2
  | 0, _, _ => Nat.zero_le 2
  | k + 1, j, hk => by
    unfold fl_lay fl_up
    split
    · apply fl_stk_le
      split
      · exact hp k (by assumption)
      · split
        · exact hh k (by omega)
        · exact fl_gt_le _ _ _ _
    · exact fl_lay_le hp hh k j (by omega)
/-- patterns that are ones -/
def fl_okp (g ps : Nat → Nat) (n : Nat) : Prop := ∀ t, t < n → ps t < 256 ∧ ∀ k, k < g 1 → ps t / 4 ^ k % 4 ≤ 2
theorem fl_nh_le {g : Nat → Nat} {f : Nat} {v : Nat → Nat} (hv : ∀ j, v j ≤ 2) (k : Nat) : fl_nh g f v k ≤ 2 := by
  unfold fl_nh
  split
  · exact fl_pv_le (hv _)
  · exact Nat.le_refl 2
theorem fl_st_le {g : Nat → Nat} (w : fl_wf g) {k : Nat} (hk : k < g 0) : g (40 + k) ≤ 2 := by
  by_cases h : k < g 1
  · have := w.2.1 k h; omega
  · have := w.2.2.1 k (by omega) hk; omega
theorem fl_hd_le {g : Nat → Nat} {f : Nat} {ps : Nat → Nat} {n : Nat} (w : fl_wf g) (hp : fl_okp g ps n) : ∀ t, t ≤ n → ∀ k, k < g 0 → fl_hd g f ps t k ≤ 2
  | 0, _, _, hk => fl_st_le w hk
  | t + 1, ht, _, _ => fl_nh_le (fun j => fl_lay_le (hp t (by omega)).2 (fl_hd_le w hp t (by omega)) _ j (Nat.le_refl _)) _
theorem fl_vl_le {g : Nat → Nat} {f : Nat} {ps : Nat → Nat} {n : Nat} (w : fl_wf g) (hp : fl_okp g ps n) {t : Nat} (ht : t < n) (j : Nat) : fl_vl g f ps t j ≤ 2 := fl_lay_le (hp t ht).2 (fl_hd_le w hp t (by omega)) _ j (Nat.le_refl _)
theorem fl_gn_le {g : Nat → Nat} {f : Nat} {v : Nat → Nat} {k : Nat} : ∀ i, fl_gn g f v k 0 i + fl_gn g f v k 1 i ≤ i
  | 0 => Nat.le_refl 0
  | i + 1 => by
    have := fl_gn_le (g := g) (f := f) (v := v) (k := k) i
    unfold fl_gn at this ⊢
    rw [fl_cnt, fl_cnt]
    by_cases h0 : fl_pv g f v (g (16 + k) + i) = 0
    · rw [decide_eq_true h0, decide_eq_false (show ¬ fl_pv g f v (g (16 + k) + i) = 1 by omega)]
      simp only [Bool.toNat_true, Bool.toNat_false]
      omega
    · rw [decide_eq_false h0]
      have := Bool.toNat_le (decide (fl_pv g f v (g (16 + k) + i) = 1))
      simp only [Bool.toNat_false]
      omega
theorem fl_gn_succ {g : Nat → Nat} {f : Nat} {v : Nat → Nat} {k z i : Nat} : fl_gn g f v k z (i + 1) = fl_gn g f v k z i + (decide (fl_pv g f v (g (16 + k) + i) = z)).toNat := rfl
/-- the first below n; n, if there is none -/
def fl_frst (q : Nat → Bool) : Nat → Nat
  | 0 => 0
  | n + 1 => if fl_any q n = true then fl_frst q n else if q n = true then n else n + 1
theorem fl_any_none {q : Nat → Bool} {n : Nat} (h : fl_any q n = false) {t : Nat} (ht : t < n) : q t = false := by
  cases e : q t with
  | false => rfl
  | true => rw [fl_any_iff.mpr ⟨t, ht, e⟩] at h; cases h
theorem fl_frst_at {q : Nat → Bool} {t : Nat} (h : fl_any q t = false) (hq : q t = true) : ∀ {n : Nat}, t < n → fl_any q n = true ∧ fl_frst q n = t
  | 0, ht => by omega
  | n + 1, ht => by
    by_cases e : t = n
    · subst e
      rw [fl_any, fl_frst, h, hq]
      exact ⟨rfl, rfl⟩
    · have := fl_frst_at h hq (show t < n by omega)
      rw [fl_any, fl_frst, this.1]
      exact ⟨rfl, this.2⟩
theorem fl_frst_sp {q : Nat → Bool} : ∀ {n : Nat}, fl_any q n = true → fl_frst q n < n ∧ q (fl_frst q n) = true ∧ fl_any q (fl_frst q n) = false
  | 0, h => by cases h
  | n + 1, h => by
    rw [fl_frst]
    cases e : fl_any q n with
    | true =>
      rw [if_pos rfl]
      have := fl_frst_sp e
      exact ⟨by omega, this.2⟩
    | false =>
      rw [fl_any, e, Bool.false_or] at h
      rw [if_neg (by decide), if_pos h]
      exact ⟨by omega, h, e⟩
theorem fl_frst_congr {q q' : Nat → Bool} : ∀ {n : Nat}, (∀ i, i < n → q i = q' i) → fl_frst q n = fl_frst q' n
  | 0, _ => rfl
  | n + 1, h => by rw [fl_frst, fl_frst, fl_frst_congr (fun i hi => h i (by omega)), fl_any_congr (fun i hi => h i (by omega)), h n (by omega)]
/-- an output that shows, two circuits' values at hand -/
def fl_sq (g a b : Nat → Nat) (o : Nat) : Bool := decide (a (g (72 + o)) ≠ 2) && (decide (b (g (72 + o)) ≠ 2) && decide (a (g (72 + o)) ≠ b (g (72 + o))))
/-- whether a fault shows at a tick -/
def fl_shn (g : Nat → Nat) (f : Nat) (ps : Nat → Nat) (t : Nat) : Bool := fl_any (fl_sq g (fl_vl g 64 ps t) (fl_vl g f ps t)) (g 3)
