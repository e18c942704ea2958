/-! A RUN of the class, what is kept of it, and a tick more -/
def fl_cvn (g : Nat → Nat) (c : Nat) : Nat → Nat := if c < 2 * (g 0 + g 2) then fl_fvl g c (fl_ps g) (g 76) else fl_vl g 64 (fl_ps g) (g 76 - 1)
def fl_chn (g : Nat → Nat) (c : Nat) : Nat → Nat := if c < 2 * (g 0 + g 2) then fl_fhd g c (fl_ps g) (g 76) else fl_hd g 64 (fl_ps g) (g 76)
/-- the outputs at which a fault shows, as a long -/
def fl_shl (g : Nat → Nat) (f : Nat) (ps : Nat → Nat) (t : Nat) : Int64 := fl_bo (fun j => if fl_sq g (fl_vl g 64 ps t) (fl_vl g f ps t) j = true then 1 <<< (Int32.toInt64 (Int32.ofNat (g (72 + j))) &&& 63) else 0) (g 3)
abbrev fl_rn (h : fl_H) (r : Nat) (g : Nat → Nat) (s : Int64) : Prop :=
  fl_net h (r + 1) g ∧ (fl_i h r 3 = Int32.ofNat (g 76) ∧ fl_i h r 4 = Int32.ofNat (g 77)) ∧
  (fl_l h r 5 = fl_B (fun c => decide (c < 2 * (g 0 + g 2)) && fl_any (fl_shn g c (fl_ps g)) (g 76)) ∧ fl_l h r 6 = fl_B (fun c => decide (c < 2 * (g 0 + g 2)) && fl_any (fl_dr g c (fl_ps g)) (g 76)) ∧ fl_l h r 7 = s ∧ ∀ c, c < 64 → fl_hb s c = true → c < 2 * (g 0 + g 2)) ∧
  (∀ t, t < g 76 → fl_l h (r + 34) t = Int64.ofNat (g (78 + t))) ∧
  (∀ f, f < 2 * (g 0 + g 2) → fl_any (fl_shn g f (fl_ps g)) (g 76) = true → fl_l h (r + 36) f = Int64.ofNat (fl_frst (fl_shn g f (fl_ps g)) (g 76)) ∧ fl_l h (r + 38) f = fl_shl g f (fl_ps g) (fl_frst (fl_shn g f (fl_ps g)) (g 76))) ∧
  (0 < g 76 → ∀ k, k < g 0 → (fl_l h (r + 14 + 1 + 2) k = fl_B (fun _ => decide (fl_vl g 64 (fl_ps g) (g 76 - 1) k = 1)) ∧ fl_l h (r + 14 + 1 + 4) k = fl_B (fun _ => decide (fl_vl g 64 (fl_ps g) (g 76 - 1) k = 0))) ∧ fl_l h (r + 14 + 10 + 2) k = fl_B (fun c => decide (fl_cvn g c k = 1)) ∧ fl_l h (r + 14 + 10 + 4) k = fl_B (fun c => decide (fl_cvn g c k = 0))) ∧
  (∀ k, k < g 0 → g (4 + k) = 8 → (fl_l h (r + 14 + 1 + 6) k = fl_B (fun _ => decide (fl_hd g 64 (fl_ps g) (g 76) k = 1)) ∧ fl_l h (r + 14 + 1 + 8) k = fl_B (fun _ => decide (fl_hd g 64 (fl_ps g) (g 76) k = 0))) ∧ fl_l h (r + 14 + 10 + 6) k = fl_B (fun c => decide (fl_chn g c k = 1)) ∧ fl_l h (r + 14 + 10 + 8) k = fl_B (fun c => decide (fl_chn g c k = 0)))
/-- all but a stretch of cells stays -/
abbrev fl_rg (a b : Nat) (h h' : fl_H) : Prop := h'.1 = h.1 ∧ fl_k h' = fl_k h ∧ fl_r h' = fl_r h ∧ ∀ q, q < a ∨ b < q → fl_i h' q = fl_i h q ∧ fl_l h' q = fl_l h q
def fl_lx (g : Nat → Nat) (c : Nat) : Bool := decide (c < 2 * (g 0 + g 2)) && !fl_any (fl_dr g c (fl_ps g)) (g 76)
section
variable {g : Nat → Nat} {pt : Nat}
theorem fl_gv1 (w : fl_wf g) (hn : g 76 < 24) {f : Nat} : fl_vl (fl_t1 g pt) f (fl_ps (fl_t1 g pt)) (g 76) = fl_lay g f pt (fl_hd g f (fl_ps g) (g 76)) (g 0) := by
  unfold fl_vl
  rw [fl_t1_lt (by omega), show fl_ps (fl_t1 g pt) (g 76) = pt from fl_t1_pt]
  exact fl_lay_cg w (fun _ hj => fl_t1_lt hj) (fl_hd_cg w (fun _ hj => fl_t1_lt hj) _ (fun _ hi => fl_t1_ps hi hn)) _ (Nat.le_refl _)
theorem fl_bv1 (w : fl_wf g) (hn : g 76 < 24) {c : Nat} : fl_lay g (fl_fa (fl_lx g) c) pt (fl_chn g c) (g 0) = if fl_lx g c = true then fl_vl (fl_t1 g pt) c (fl_ps (fl_t1 g pt)) (g 76) else fl_vl (fl_t1 g pt) 64 (fl_ps (fl_t1 g pt)) (g 76) := by
  rw [fl_gv1 w hn, fl_gv1 w hn]
  unfold fl_fa fl_lx fl_chn fl_fhd
  by_cases c1 : c < 2 * (g 0 + g 2)
  · rw [decide_eq_true c1, Bool.true_and, if_pos c1]
    rcases Bool.eq_false_or_eq_true (fl_any (fl_dr g c (fl_ps g)) (g 76)) with e | e
    · rw [e]; rfl
    · rw [e]; rfl
  · rw [decide_eq_false c1, Bool.false_and, if_neg c1]; rfl
theorem fl_cvn1 (w : fl_wf g) (hn : g 76 < 24) {c : Nat} : fl_cvn (fl_t1 g pt) c = fl_lay g (fl_fa (fl_lx g) c) pt (fl_chn g c) (g 0) := by
  rw [fl_bv1 w hn]
  unfold fl_cvn fl_lx
  rw [fl_t1_lt (by omega), fl_t1_lt (by omega), fl_t1_76]
  by_cases c1 : c < 2 * (g 0 + g 2)
  · rw [decide_eq_true c1, Bool.true_and, if_pos c1, fl_t1_fvl w hn]
    rcases Bool.eq_false_or_eq_true (fl_any (fl_dr g c (fl_ps g)) (g 76)) with e | e <;> rw [e] <;> rfl
  · rw [decide_eq_false c1, Bool.false_and, if_neg c1, Nat.add_sub_cancel]; rfl
theorem fl_okp_t1 (w : fl_wf g) (hn : g 76 < 24) (hp : pt < 256) (hp2 : ∀ k, k < g 1 → pt / 4 ^ k % 4 ≤ 2) : fl_okp (fl_t1 g pt) (fl_ps (fl_t1 g pt)) (g 76 + 1) := by
  have := fl_okp_g (fl_t1_wf w hn hp hp2)
  rw [fl_t1_76] at this
  exact this
/-- what shows at the new tick, of those that are live -/
theorem fl_shw1 (w : fl_wf g) (hn : g 76 < 24) (hp : pt < 256) (hp2 : ∀ k, k < g 1 → pt / 4 ^ k % 4 ≤ 2) {j c : Nat} (hj : j < g 3) : ((decide (fl_lay g (fl_fa (fl_lx g) c) pt (fl_chn g c) (g 0) (g (72 + j)) = 1) && decide (fl_lay g 64 pt (fl_hd g 64 (fl_ps g) (g 76)) (g 0) (g (72 + j)) = 0)) || (decide (fl_lay g (fl_fa (fl_lx g) c) pt (fl_chn g c) (g 0) (g (72 + j)) = 0) && decide (fl_lay g 64 pt (fl_hd g 64 (fl_ps g) (g 76)) (g 0) (g (72 + j)) = 1))) = (fl_lx g c && fl_sq (fl_t1 g pt) (fl_vl (fl_t1 g pt) 64 (fl_ps (fl_t1 g pt)) (g 76)) (fl_vl (fl_t1 g pt) c (fl_ps (fl_t1 g pt)) (g 76)) j) := by
  have w1 := w.1
  have w' := fl_t1_wf w hn hp hp2
  have ok := fl_okp_t1 w hn hp hp2
  have a2 := fl_vl_le (f := 64) w' ok (show g 76 < g 76 + 1 by omega) (g (72 + j))
  have b2 := fl_vl_le (f := c) w' ok (show g 76 < g 76 + 1 by omega) (g (72 + j))
  rw [← fl_gv1 (f := 64) w hn, fl_bv1 w hn, fl_sq_cg (g := g) (fun _ hj => fl_t1_lt hj) (by omega)]
  unfold fl_sq
  rcases Bool.eq_false_or_eq_true (fl_lx g c) with e | e
  · rw [e, if_pos rfl]
    generalize fl_vl (fl_t1 g pt) 64 (fl_ps (fl_t1 g pt)) (g 76) (g (72 + j)) = a at a2 ⊢
    generalize fl_vl (fl_t1 g pt) c (fl_ps (fl_t1 g pt)) (g 76) (g (72 + j)) = b at b2 ⊢
    rcases (show a = 0 ∨ a = 1 ∨ a = 2 by omega) with h | h | h <;> rcases (show b = 0 ∨ b = 1 ∨ b = 2 by omega) with h' | h' | h' <;> subst h <;> subst h' <;> rfl
  · rw [e, if_neg (by decide)]
    generalize fl_vl (fl_t1 g pt) 64 (fl_ps (fl_t1 g pt)) (g 76) (g (72 + j)) = a at a2 ⊢
    rcases (show a = 0 ∨ a = 1 ∨ a = 2 by omega) with h | h | h <;> subst h <;> rfl
end
