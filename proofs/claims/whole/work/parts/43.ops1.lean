/-! FRAMES of the invariant; begins, end -/
section
variable {k0 : Nat → Nat × Nat} {h h' : fl_H}
theorem fl_iT_fr {n : Nat} {tx : Nat → Nat} (a : fl_iT h n tx) (e1 : fl_i h' 259 4 = fl_i h 259 4) (e2 : fl_i h' 261 = fl_i h 261) (e3 : fl_i h' 1 = fl_i h 1) (e4 : fl_l h' 3 = fl_l h 3) : fl_iT h' n tx := ⟨a.1, by rw [e1]; exact a.2.1, by rw [e3]; exact a.2.2.1, by rw [e3]; exact a.2.2.2.1, fun j hj => by rw [e2, e4]; exact a.2.2.2.2 j hj⟩
theorem fl_iO_fr {n : Nat} {rv : Nat → Int64} (a : fl_iO h n rv) (e1 : fl_i h' 259 1 = fl_i h 259 1) (e2 : fl_l h' 260 = fl_l h 260) (e3 : fl_i h' 4 = fl_i h 4) (e4 : fl_l h' 6 = fl_l h 6) : fl_iO h' n rv := ⟨a.1, by rw [e1]; exact a.2.1, by rw [e3]; exact a.2.2.1, by rw [e3]; exact a.2.2.2.1, fun j hj => by rw [e2, e4]; exact a.2.2.2.2 j hj⟩
theorem fl_iC_fr {n : Nat} {ck cm : Nat → Nat} (a : fl_iC h n ck cm) (e1 : fl_i h' 259 11 = fl_i h 259 11) (e2 : fl_i h' 264 = fl_i h 264) (e3 : fl_i h' 265 = fl_i h 265) (e4 : fl_i h' 21 = fl_i h 21) (e5 : fl_i h' 24 = fl_i h 24) (e6 : fl_l h' 23 = fl_l h 23) (e7 : fl_l h' 26 = fl_l h 26) : fl_iC h' n ck cm := ⟨a.1, by rw [e1]; exact a.2.1, by rw [e4]; exact a.2.2.1, by rw [e4]; exact a.2.2.2.1, by rw [e5]; exact a.2.2.2.2.1, by rw [e5]; exact a.2.2.2.2.2.1, fun j hj => by rw [e2, e3, e6, e7]; exact a.2.2.2.2.2.2 j hj⟩
theorem fl_rn_fr {r : Nat} {g : Nat → Nat} {s : Int64} (d : fl_rn h r g s) (e : ∀ q, r ≤ q → q ≤ r + 38 → fl_i h' q = fl_i h q ∧ fl_l h' q = fl_l h q) : fl_rn h' r g s := by
  have el : ∀ q, r ≤ q → q ≤ r + 38 → fl_l h' q = fl_l h q := fun q h1 h2 => (e q h1 h2).2
  refine ⟨fl_net_fr d.1 (e (r + 1) (by omega) (by omega)).1 (fun b h1 h2 => el b (by omega) (by omega)), ⟨?_, ?_⟩, ⟨?_, ?_, ?_⟩, ?_, ?_, ?_, ?_⟩
  · rw [(e r (by omega) (by omega)).1]; exact d.2.1.1
  · rw [(e r (by omega) (by omega)).1]; exact d.2.1.2
  · rw [el r (by omega) (by omega)]; exact d.2.2.1.1
  · rw [el r (by omega) (by omega)]; exact d.2.2.1.2.1
  · rw [el r (by omega) (by omega)]; exact d.2.2.1.2.2
  · rw [el (r + 34) (by omega) (by omega)]; exact d.2.2.2.1
  · rw [el (r + 36) (by omega) (by omega), el (r + 38) (by omega) (by omega)]; exact d.2.2.2.2.1
  · rw [el (r + 14 + 1 + 2) (by omega) (by omega), el (r + 14 + 1 + 4) (by omega) (by omega), el (r + 14 + 10 + 2) (by omega) (by omega), el (r + 14 + 10 + 4) (by omega) (by omega)]; exact d.2.2.2.2.2.1
  · rw [el (r + 14 + 1 + 6) (by omega) (by omega), el (r + 14 + 1 + 8) (by omega) (by omega), el (r + 14 + 10 + 6) (by omega) (by omega), el (r + 14 + 10 + 8) (by omega) (by omega)]; exact d.2.2.2.2.2.2
/-- the cells of the reference that a call may leave as it likes -/
abbrev fl_scr (q j : Nat) : Prop := (266 ≤ q ∧ q ≤ 282) ∨ (q = 259 ∧ (j = 0 ∨ j = 5 ∨ j = 6 ∨ j = 12 ∨ j = 16 ∨ j = 29 ∨ j = 32))
theorem fl_iG_fr {g g1 g2 : Nat → Nat} {b1 b2 : Bool} {s s1 s2 : Int64} (a : fl_iG h g g1 g2 b1 b2 s s1 s2) (e1 : fl_i h' 262 = fl_i h 262) (e2 : fl_l h' 263 = fl_l h 263) (e3 : fl_i h' 0 6 = fl_i h 0 6) (e4 : fl_i h' 0 7 = fl_i h 0 7) (e5 : fl_i h' 283 = fl_i h 283) (e6 : ∀ q, 27 ≤ q → q ≤ 143 → fl_i h' q = fl_i h q ∧ fl_l h' q = fl_l h q) : fl_iG h' g g1 g2 b1 b2 s s1 s2 := by
  refine ⟨a.1, fun j hj => by rw [e1]; exact a.2.1 j hj, by rw [e2]; exact a.2.2.1, fl_rn_fr a.2.2.2.1 (fun q h1 h2 => e6 q (by omega) (by omega)), ⟨by rw [e3]; exact a.2.2.2.2.1.1, by rw [e5]; exact a.2.2.2.2.1.2.1, fun z => ?_⟩, ⟨by rw [e4]; exact a.2.2.2.2.2.1, by rw [e5]; exact a.2.2.2.2.2.2.1, fun z => ?_⟩⟩
  · have := a.2.2.2.2.1.2.2 z
    exact ⟨this.1, fun j hj => by rw [e1]; exact this.2.1 j hj, by rw [e2]; exact this.2.2.1, fl_rn_fr this.2.2.2 (fun q h1 h2 => e6 q (by omega) (by omega))⟩
  · have := a.2.2.2.2.2.2.2 z
    exact ⟨this.1, fun j hj => by rw [e1]; exact this.2.1 j hj, by rw [e2]; exact this.2.2.1, fl_rn_fr this.2.2.2 (fun q h1 h2 => e6 q (by omega) (by omega))⟩
/-- both answer v, and the invariant stays -/
def fl_both (k0 : Nat → Nat × Nat) (c : Nat × Nat × Nat × Bool) (x m : Nat) (as bs : List Value) (h : fl_H) : Prop := ∃ v h1 h2, fl_cl fl_C x (.ref 0 :: as) h = some (some (some (.int v)), h1) ∧ fl_cl fl_C m (.ref 259 :: bs) h1 = some (some (some (.int v)), h2) ∧ fl_Inv k0 c h2
theorem fl_wf_76 {g : Nat → Nat} (w : fl_wf g) : fl_wf (fl_up g 76 0) := by
  have e : ∀ j, j ≠ 76 → fl_up g 76 0 j = g j := fun j hj => fl_up_ne hj
  have w1 := w.1
  refine ⟨?_, ?_, ?_, ?_, ?_, ?_, ?_, ?_, ?_, ?_, ?_, ?_, ?_, ?_⟩
  · rw [e 0 (by omega), e 1 (by omega), e 2 (by omega), e 3 (by omega), fl_up_self, e 77 (by omega)]; omega
  · rw [e 1 (by omega)]
    intro k hk
    rw [e (4 + k) (by omega), e (16 + k) (by omega), e (28 + k) (by omega), e (40 + k) (by omega)]
    exact w.2.1 k hk
  · rw [e 1 (by omega), e 0 (by omega), e 2 (by omega)]
    intro k hk hk2
    rw [e (4 + k) (by omega), e (16 + k) (by omega), e (28 + k) (by omega), e (40 + k) (by omega)]
    exact w.2.2.1 k hk hk2
  · rw [e 1 (by omega), e 0 (by omega)]
    intro k i hk hk2 h8 hi
    have wk := w.2.2.1 k hk hk2
    rw [e (28 + k) (by omega)] at hi
    rw [e (4 + k) (by omega)] at h8
    rw [e (16 + k) (by omega), e _ (by omega)]
    exact w.2.2.2.1 k i hk hk2 h8 hi
  · rw [e 0 (by omega), e 2 (by omega)]
    intro p hp; rw [e _ (by omega)]; exact w.2.2.2.2.1 p hp
  · rw [e 0 (by omega), e 3 (by omega)]
    intro j hj; rw [e _ (by omega)]; exact w.2.2.2.2.2.1 j hj
  · rw [e 3 (by omega)]
    intro i j hij hj; rw [e _ (by omega), e _ (by omega)]; exact w.2.2.2.2.2.2.1 i j hij hj
  · rw [fl_up_self]
    intro t ht; omega
  · intro j hj
    have := w.2.2.2.2.2.2.2.2.1 j hj
    unfold fl_up
    split <;> omega
  · rw [e 1 (by omega), e 0 (by omega)]
    intro hh; rw [e _ (by omega)]; exact w.2.2.2.2.2.2.2.2.2.1 hh
  · rw [e 1 (by omega), e 0 (by omega)]
    intro k hk hk2; rw [e _ (by omega), e _ (by omega), e _ (by omega)]; exact w.2.2.2.2.2.2.2.2.2.2.1 k hk hk2
  · rw [e 1 (by omega), e 0 (by omega), e 2 (by omega)]
    intro hh; rw [e _ (by omega), e _ (by omega)]; exact w.2.2.2.2.2.2.2.2.2.2.2.1 hh
  · rw [e 1 (by omega), e 0 (by omega), e 2 (by omega)]
    exact w.2.2.2.2.2.2.2.2.2.2.2.2.1
  · rw [e 0 (by omega), show fl_cnt (fun k => decide (fl_up g 76 0 (4 + k) = 8)) (g 0) = fl_cnt (fun k => decide (g (4 + k) = 8)) (g 0) from fl_cnt_congr fun k hk => by rw [e _ (by omega)]]
    exact w.2.2.2.2.2.2.2.2.2.2.2.2.2
end
