/-! A NET THAT IS READ: what it keeps to -/
abbrev fl_byt (g : Nat → Nat) : Prop := (∀ j, j < 126 → g j < 256) ∧ g 76 = 0 ∧ g 77 = 0
abbrev fl_RI (g : Nat → Nat) : Prop := fl_pw g (g 0) (g 2) ∧ fl_byt g ∧ g 3 = 0
abbrev fl_RQ (s W w : Nat) (g : Nat → Nat) : Prop := fl_pw g (g 0) W ∧ fl_byt g ∧ g 3 = 0 ∧ g 0 < 12 ∧ (g 2 = W + w ∧ g 2 ≤ 20) ∧ (g (4 + g 0) = s ∧ g (16 + g 0) = W ∧ g (28 + g 0) = w ∧ g (40 + g 0) = 2) ∧ (∀ i, i < w → g (52 + (W + i)) < 12 ∧ (s ≠ 8 → g (52 + (W + i)) < g 0)) ∧ (1 ≤ s ∧ s ≤ 8) ∧ (s = 8 → fl_rgs g ≤ 2)
abbrev fl_RO (g : Nat → Nat) : Prop := fl_pw g (g 0) (g 2) ∧ fl_byt g ∧ g 3 ≤ 4 ∧ (∀ j, j < g 3 → g (72 + j) < g 0) ∧ ∀ i j, i < j → j < g 3 → g (72 + i) ≠ g (72 + j)
section
variable {g : Nat → Nat} {s W w k v : Nat}
theorem fl_go_ne {j : Nat} (h : j ≠ 4 + g 0 ∧ j ≠ 16 + g 0 ∧ j ≠ 28 + g 0 ∧ j ≠ 40 + g 0) : fl_go g s j = g j := by
  unfold fl_go
  rw [fl_up_ne h.2.2.2, fl_up_ne h.2.2.1, fl_up_ne h.2.1, fl_up_ne h.1]
theorem fl_go_at : fl_go g s (4 + g 0) = s ∧ fl_go g s (16 + g 0) = g 2 ∧ fl_go g s (28 + g 0) = 0 ∧ fl_go g s (40 + g 0) = 2 := by
  unfold fl_go
  refine ⟨?_, ?_, ?_, fl_up_self⟩
  · rw [fl_up_ne (by omega), fl_up_ne (by omega), fl_up_ne (by omega), fl_up_self]
  · rw [fl_up_ne (by omega), fl_up_ne (by omega), fl_up_self]
  · rw [fl_up_ne (by omega), fl_up_self]
theorem fl_gp_ne {j : Nat} (h : j ≠ 52 + g 2 ∧ j ≠ 2 ∧ j ≠ 28 + g 0) : fl_gp g k j = g j := by
  unfold fl_gp
  rw [fl_up_ne h.2.2, fl_up_ne h.2.1, fl_up_ne h.1]
theorem fl_gp_at (h : g 0 < 12) : fl_gp g k (52 + g 2) = k ∧ fl_gp g k 2 = g 2 + 1 ∧ fl_gp g k (28 + g 0) = g (28 + g 0) + 1 := by
  unfold fl_gp
  refine ⟨?_, ?_, fl_up_self⟩
  · rw [fl_up_ne (by omega), fl_up_ne (by omega), fl_up_self]
  · rw [fl_up_ne (by omega), fl_up_self]
theorem fl_gc_ne {j : Nat} (h : j ≠ 0 ∧ j ≠ 40 + g 0) : fl_gc g v j = g j := by
  unfold fl_gc
  rw [fl_up_ne h.1, fl_up_ne h.2]
theorem fl_gc_at : fl_gc g v 0 = g 0 + 1 ∧ fl_gc g v (40 + g 0) = v := by
  unfold fl_gc
  exact ⟨fl_up_self, by rw [fl_up_ne (by omega), fl_up_self]⟩
theorem fl_gq_ne {j : Nat} (h : j ≠ 72 + g 3 ∧ j ≠ 3) : fl_gq g k j = g j := by
  unfold fl_gq
  rw [fl_up_ne h.2, fl_up_ne h.1]
theorem fl_gq_at : fl_gq g k (72 + g 3) = k ∧ fl_gq g k 3 = g 3 + 1 := by
  unfold fl_gq
  exact ⟨by rw [fl_up_ne (by omega), fl_up_self], fl_up_self⟩
theorem fl_RQ_go (I : fl_RI g) (h12 : g 0 < 12) (hs : 1 ≤ s ∧ s ≤ 8) (hc : s = 8 → fl_rgs g ≤ 2) : fl_RQ s (g 2) 0 (fl_go g s) := by
  have e0 : fl_go g s 0 = g 0 := fl_go_ne (by omega)
  have e2 : fl_go g s 2 = g 2 := fl_go_ne (by omega)
  have e3 : fl_go g s 3 = g 3 := fl_go_ne (by omega)
  have e1 : fl_go g s 1 = g 1 := fl_go_ne (by omega)
  have at' := fl_go_at (g := g) (s := s)
  have p := I.1.1
  have b := I.2.1
  refine ⟨?_, ⟨fun j hj => ?_, ?_, ?_⟩, by rw [e3]; exact I.2.2, by rw [e0]; exact h12, by rw [e2]; omega, by rw [e0]; exact at', fun i hi => by omega, hs, fun h => ?_⟩
  · rw [e0]
    exact fl_pw_congr I.1 e1 (fun k hk => ⟨fl_go_ne (by omega), fl_go_ne (by omega), fl_go_ne (by omega), fl_go_ne (by omega)⟩) (fun p hp => fl_go_ne (by omega))
  · by_cases q : j ≠ 4 + g 0 ∧ j ≠ 16 + g 0 ∧ j ≠ 28 + g 0 ∧ j ≠ 40 + g 0
    · rw [fl_go_ne q]; exact b.1 j hj
    · rcases (show j = 4 + g 0 ∨ j = 16 + g 0 ∨ j = 28 + g 0 ∨ j = 40 + g 0 by omega) with e | e | e | e <;> rw [e]
      · rw [at'.1]; omega
      · rw [at'.2.1]; omega
      · rw [at'.2.2.1]; omega
      · rw [at'.2.2.2]; omega
  · rw [fl_go_ne (by omega)]; exact b.2.1
  · rw [fl_go_ne (by omega)]; exact b.2.2
  · unfold fl_rgs
    rw [e0, fl_cnt_congr (q' := fun k => decide (g (4 + k) = 8)) (fun i hi => by rw [fl_go_ne (by omega)])]
    exact hc h
theorem fl_RQ_gp (I : fl_RQ s W w g) (h20 : g 2 < 20) (hk : k < 12) (hs : s ≠ 8 → k < g 0) : fl_RQ s W (w + 1) (fl_gp g k) := by
  obtain ⟨a, b, c3, c0, c2, c4, cp, cs, cr⟩ := I
  have at' := fl_gp_at (g := g) (k := k) c0
  have e0 : fl_gp g k 0 = g 0 := fl_gp_ne (by omega)
  refine ⟨?_, ⟨fun j hj => ?_, ?_, ?_⟩, by rw [fl_gp_ne (by omega)]; exact c3, by rw [e0]; exact c0, by rw [at'.2.1]; omega, ?_, fun i hi => ?_, cs, fun h => ?_⟩
  · rw [e0]
    exact fl_pw_congr a (fl_gp_ne (by omega)) (fun k hk => ⟨fl_gp_ne (by omega), fl_gp_ne (by omega), fl_gp_ne (by omega), fl_gp_ne (by omega)⟩) (fun p hp => fl_gp_ne (by omega))
  · by_cases q : j ≠ 52 + g 2 ∧ j ≠ 2 ∧ j ≠ 28 + g 0
    · rw [fl_gp_ne q]; exact b.1 j hj
    · have := b.1 (28 + g 0) (by omega)
      rcases (show j = 52 + g 2 ∨ j = 2 ∨ j = 28 + g 0 by omega) with e | e | e <;> rw [e]
      · rw [at'.1]; omega
      · rw [at'.2.1]; omega
      · rw [at'.2.2]; omega
  · rw [fl_gp_ne (by omega)]; exact b.2.1
  · rw [fl_gp_ne (by omega)]; exact b.2.2
  · rw [e0, fl_gp_ne (by omega), fl_gp_ne (by omega), fl_gp_ne (j := 40 + g 0) (by omega), at'.2.2]
    exact ⟨c4.1, c4.2.1, by omega, c4.2.2.2⟩
  · rw [e0]
    by_cases e : i = w
    · rw [e, ← c2.1, at'.1]
      exact ⟨hk, hs⟩
    · rw [fl_gp_ne (by omega)]
      exact cp i (by omega)
  · unfold fl_rgs
    rw [e0, fl_cnt_congr (q' := fun k => decide (g (4 + k) = 8)) (fun i hi => by rw [fl_gp_ne (by omega)])]
    exact cr h
theorem fl_RI_gc (I : fl_RQ s W w g) (hw : 1 ≤ w ∧ w ≤ 3) (hk : (s = 1 ∨ s = 2 ∨ s = 8) ↔ w = 1) (hv : v ≤ 2 ∧ (s ≠ 8 → v = 2)) : fl_RI (fl_gc g v) := by
  obtain ⟨a, b, c3, c0, c2, c4, cp, cs, cr⟩ := I
  have at' := fl_gc_at (g := g) (v := v)
  have e2 : fl_gc g v 2 = g 2 := fl_gc_ne (by omega)
  have p := a.1
  have a' : fl_pw (fl_gc g v) (g 0) W := fl_pw_congr a (fl_gc_ne (by omega)) (fun k hk => ⟨fl_gc_ne (by omega), fl_gc_ne (by omega), fl_gc_ne (by omega), fl_gc_ne (by omega)⟩) (fun p hp => fl_gc_ne (by omega))
  have f4 : fl_gc g v (4 + g 0) = s := by rw [fl_gc_ne (by omega)]; exact c4.1
  refine ⟨?_, ⟨fun j hj => ?_, ?_, ?_⟩, by rw [fl_gc_ne (by omega)]; exact c3⟩
  · rw [at'.1, e2, c2.1]
    refine fl_pw_line a' c0 (by rw [f4]; exact cs) (by rw [fl_gc_ne (by omega)]; exact c4.2.1) (by rw [fl_gc_ne (by omega)]; exact c4.2.2.1) hw (by omega) (by rw [f4, at'.2]; exact hv) (by rw [f4]; exact hk) (fun i hi => by rw [f4, fl_gc_ne (by omega)]; exact cp i hi) (fun h => ?_)
    rw [f4] at h
    rw [fl_cnt_congr (q' := fun k => decide (g (4 + k) = 8)) (fun i hi => by rw [fl_gc_ne (by omega)])]
    exact cr h
  · by_cases q : j ≠ 0 ∧ j ≠ 40 + g 0
    · rw [fl_gc_ne q]; exact b.1 j hj
    · rcases (show j = 0 ∨ j = 40 + g 0 by omega) with e | e <;> rw [e]
      · rw [at'.1]; omega
      · rw [at'.2]; omega
  · rw [fl_gc_ne (by omega)]; exact b.2.1
  · rw [fl_gc_ne (by omega)]; exact b.2.2
theorem fl_RI_gin {n : Nat} (h : 1 ≤ n ∧ n ≤ 4) : fl_RI (fl_gin n) := by
  have z : ∀ j, j ≠ 0 → j ≠ 1 → (j < 40 ∨ 40 + n ≤ j) → fl_gin n j = 0 := fun j a b c => by
    unfold fl_gin
    rw [if_neg (by omega), if_neg (by omega)]
  have e0 : fl_gin n 0 = n := by unfold fl_gin; rw [if_pos (Or.inl rfl)]
  have e1 : fl_gin n 1 = n := by unfold fl_gin; rw [if_pos (Or.inr rfl)]
  have e2 : ∀ k, k < n → fl_gin n (40 + k) = 2 := fun k hk => by
    unfold fl_gin
    rw [if_neg (by omega), if_pos (by omega)]
  have z2 : fl_gin n 2 = 0 := z 2 (by omega) (by omega) (by omega)
  refine ⟨?_, ⟨fun j hj => ?_, z _ (by omega) (by omega) (by omega), z _ (by omega) (by omega) (by omega)⟩, z _ (by omega) (by omega) (by omega)⟩
  · rw [e0, z2]
    refine ⟨by rw [e1]; omega, fun k hk => ?_, fun k h1 h2 => ?_, fun k i h1 h2 => ?_, fun p hp => by omega, fun h => ?_, fun k h1 h2 => ?_, fun h => ?_, fun _ => rfl, ?_⟩
    · rw [e1] at hk
      exact ⟨z _ (by omega) (by omega) (by omega), z _ (by omega) (by omega) (by omega), z _ (by omega) (by omega) (by omega), e2 k hk⟩
    · rw [e1] at h1; omega
    · rw [e1] at h1; omega
    · rw [e1] at h; omega
    · rw [e1] at h1; omega
    · rw [e1] at h; omega
    · rw [fl_cnt_congr (q' := fun _ => false) (fun i hi => by rw [z _ (by omega) (by omega) (by omega)]; rfl)]
      rcases (show n = 1 ∨ n = 2 ∨ n = 3 ∨ n = 4 by omega) with e | e | e | e <;> subst e <;> decide
  · unfold fl_gin
    split
    · omega
    · split <;> omega
theorem fl_RO_RI (I : fl_RI g) : fl_RO g := ⟨I.1, I.2.1, by rw [I.2.2]; omega, fun j hj => by rw [I.2.2] at hj; omega, fun i j a b => by rw [I.2.2] at b; omega⟩
theorem fl_RO_gq (I : fl_RO g) (h4 : g 3 < 4) (hk : k < g 0) (ho : fl_isO g k = false) : fl_RO (fl_gq g k) := by
  obtain ⟨a, b, c, d, e⟩ := I
  have at' := fl_gq_at (g := g) (k := k)
  have p := a.1
  have e0 : fl_gq g k 0 = g 0 := fl_gq_ne (by omega)
  have e2 : fl_gq g k 2 = g 2 := fl_gq_ne (by omega)
  have no : ∀ j, j < g 3 → g (72 + j) ≠ k := fun j hj z => by
    have := fl_any_none ho hj
    rw [decide_eq_true z] at this
    cases this
  refine ⟨?_, ⟨fun j hj => ?_, ?_, ?_⟩, by rw [at'.2]; omega, fun j hj => ?_, fun i j hij hj => ?_⟩
  · rw [e0, e2]
    exact fl_pw_congr a (fl_gq_ne (by omega)) (fun k hk => ⟨fl_gq_ne (by omega), fl_gq_ne (by omega), fl_gq_ne (by omega), fl_gq_ne (by omega)⟩) (fun p hp => fl_gq_ne (by omega))
  · by_cases q : j ≠ 72 + g 3 ∧ j ≠ 3
    · rw [fl_gq_ne q]; exact b.1 j hj
    · rcases (show j = 72 + g 3 ∨ j = 3 by omega) with e | e <;> rw [e]
      · rw [at'.1]; omega
      · rw [at'.2]; omega
  · rw [fl_gq_ne (by omega)]; exact b.2.1
  · rw [fl_gq_ne (by omega)]; exact b.2.2
  · rw [at'.2] at hj
    rw [e0]
    by_cases q : j = g 3
    · rw [q, at'.1]; exact hk
    · rw [fl_gq_ne (by omega)]; exact d j (by omega)
  · rw [at'.2] at hj
    by_cases q : j = g 3
    · rw [q, at'.1, fl_gq_ne (by omega)]
      exact no i (by omega)
    · rw [fl_gq_ne (by omega), fl_gq_ne (by omega)]
      exact e i j hij (by omega)
/-- what is read well is a net -/
theorem fl_wf_RO (I : fl_RO g) (h3 : 1 ≤ g 3) (hf : fl_any (fl_far g) (g 0) = false) : fl_wf g := by
  obtain ⟨a, b, c, d, e⟩ := I
  obtain ⟨a1, a2, a3, a4, a5, a6, a7, a8, a9, a10⟩ := id a
  refine ⟨by omega, a2, a3, a4, fun p hp => ?_, d, e, fun t ht => by omega, b.1, a6, a7, a8, fun z => a9 z.symm.symm, a10⟩
  obtain ⟨k, k1, k2, k3, k4⟩ := fl_pw_own a (g 0 - g 1) (by omega) p (fun _ => hp) (fun z => by omega)
  by_cases s : g (4 + k) = 8
  · have w1 := ((a3 k k1 k2).2.2.2.2.2.2.2).mp (Or.inr (Or.inr s))
    have := fl_any_none hf k2
    unfold fl_far at this
    rw [decide_eq_true s, Bool.true_and] at this
    have := of_decide_eq_false this
    rw [show p = g (16 + k) by omega]
    omega
  · have := a4 k (p - g (16 + k)) k1 k2 s (by omega)
    rw [show g (16 + k) + (p - g (16 + k)) = p by omega] at this
    omega
end
