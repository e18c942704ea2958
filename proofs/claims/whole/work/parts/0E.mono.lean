/-! THE COUNTERS of the abstract machine only grow -/
def fl_mn (h h' : fl_H) : Prop := h.1.2.1 ≤ h'.1.2.1 ∧ h.1.2.2.1 ≤ h'.1.2.2.1 ∧ (h'.1.2.2.2 = true → h.1.2.2.2 = true)
theorem fl_mn_rfl {h : fl_H} : fl_mn h h := ⟨Nat.le_refl _, Nat.le_refl _, id⟩
theorem fl_mn.trans {h h' h2 : fl_H} (p : fl_mn h h') (q : fl_mn h' h2) : fl_mn h h2 := ⟨Nat.le_trans p.1 q.1, Nat.le_trans p.2.1 q.2.1, fun z => p.2.2 (q.2.2 z)⟩
theorem fl_mn_mk {h : fl_H} {kd : Nat × Nat} {n : Nat} : fl_mn h (fl_mk h kd n) := ⟨Nat.le_succ _, Nat.le_add_right _ _, id⟩
theorem fl_mn_th {h : fl_H} : fl_mn h (fl_th h) := ⟨Nat.le_succ _, Nat.le_add_right _ _, fun z => nomatch z⟩
def fl_Am (h : fl_H) : Option (Bool × fl_A) → Prop
  | none => True
  | some (_, .inl (_, _, _, h')) => fl_mn h h'
  | some (_, .inr (.inl (_, _, _, _, _, h'))) => fl_mn h h'
  | some (_, .inr (.inr (.inl (_, _, _, _, _, h')))) => fl_mn h h'
  | some (_, .inr (.inr (.inr (.inl (_, _, _, _, _, _, h'))))) => fl_mn h h'
  | some (_, .inr (.inr (.inr (.inr (_, h'))))) => fl_mn h h'
section FLM
variable {h : fl_H} {st : List Value} {L : fl_L}
theorem fl_Am_ii {k : Int32 → Int32 → List Value → Option (Bool × fl_A)} (hk : ∀ x y r, fl_Am h (k x y r)) : fl_Am h (fl_ii st k) := by
  unfold fl_ii; split
  · exact hk _ _ _
  · trivial
theorem fl_Am_ll {k : Int64 → Int64 → List Value → Option (Bool × fl_A)} (hk : ∀ x y r, fl_Am h (k x y r)) : fl_Am h (fl_ll st k) := by
  unfold fl_ll; split
  · exact hk _ _ _
  · trivial
theorem fl_Am_li {k : Int64 → Int32 → List Value → Option (Bool × fl_A)} (hk : ∀ x y r, fl_Am h (k x y r)) : fl_Am h (fl_li st k) := by
  unfold fl_li; split
  · exact hk _ _ _
  · trivial
theorem fl_Am_i1 {k : Int32 → List Value → Option (Bool × fl_A)} (hk : ∀ x r, fl_Am h (k x r)) : fl_Am h (fl_i1 st k) := by
  unfold fl_i1; split
  · exact hk _ _
  · trivial
theorem fl_Am_l1 {k : Int64 → List Value → Option (Bool × fl_A)} (hk : ∀ x r, fl_Am h (k x r)) : fl_Am h (fl_l1 st k) := by
  unfold fl_l1; split
  · exact hk _ _
  · trivial
theorem fl_Am_r1 {k : Nat → List Value → Option (Bool × fl_A)} (hk : ∀ x r, fl_Am h (k x r)) : fl_Am h (fl_r1 st k) := by
  unfold fl_r1; split
  · exact hk _ _
  · trivial
theorem fl_Am_ri {k : Nat → Int32 → List Value → Option (Bool × fl_A)} (hk : ∀ x y r, fl_Am h (k x y r)) : fl_Am h (fl_ri st k) := by
  unfold fl_ri; split
  · exact hk _ _ _
  · trivial
theorem fl_Am_rii {k : Nat → Int32 → Int32 → List Value → Option (Bool × fl_A)} (hk : ∀ x y z r, fl_Am h (k x y z r)) : fl_Am h (fl_rii st k) := by
  unfold fl_rii; split
  · exact hk _ _ _ _
  · trivial
theorem fl_Am_ril {k : Nat → Int32 → Int64 → List Value → Option (Bool × fl_A)} (hk : ∀ x y z r, fl_Am h (k x y z r)) : fl_Am h (fl_ril st k) := by
  unfold fl_ril; split
  · exact hk _ _ _ _
  · trivial
theorem fl_Am_rl {k : Nat → Int64 → List Value → Option (Bool × fl_A)} (hk : ∀ x y r, fl_Am h (k x y r)) : fl_Am h (fl_rl st k) := by
  unfold fl_rl; split
  · exact hk _ _ _
  · trivial
theorem fl_Am_rr {k : Nat → Nat → List Value → Option (Bool × fl_A)} (hk : ∀ x y r, fl_Am h (k x y r)) : fl_Am h (fl_rr st k) := by
  unfold fl_rr; split
  · exact hk _ _ _
  · trivial
theorem fl_Am_iv {a : Nat} {k : Int32 → Option (Bool × fl_A)} (hk : ∀ x, fl_Am h (k x)) : fl_Am h (fl_iv L a k) := by
  unfold fl_iv; split
  · exact hk _
  · trivial
theorem fl_Am_lv {a : Nat} {k : Int64 → Option (Bool × fl_A)} (hk : ∀ x, fl_Am h (k x)) : fl_Am h (fl_lv L a k) := by
  unfold fl_lv; split
  · exact hk _
  · trivial
theorem fl_Am_rv {a : Nat} {k : Nat → Option (Bool × fl_A)} (hk : ∀ x, fl_Am h (k x)) : fl_Am h (fl_rv L a k) := by
  unfold fl_rv; split
  · exact hk _
  · trivial
theorem fl_Am_call {e : fl_E} {pc : Nat} : fl_Am h (fl_call e pc L st h) := by
  obtain ⟨ins, len, a, b, c, d, p, x, q, sw, lv⟩ := e
  unfold fl_call
  dsimp only
  split
  · exact fl_mn_rfl
  · trivial
set_option maxHeartbeats 1000000 in
theorem fl_step_mn (e : fl_E) (pc : Nat) : fl_Am h (fl_step e pc L st h) := by
  obtain ⟨ins, len, a, b, c, d, p, x, q, sw, lv⟩ := e
  cases ins
  all_goals (try exact trivial)
  all_goals (try exact (fl_mn_rfl : fl_mn h h))
  all_goals (try exact fl_Am_call)
  all_goals (try exact fl_Am_ii (fun _ _ _ => (fl_mn_rfl : fl_mn h h)))
  all_goals (try exact fl_Am_ll (fun _ _ _ => (fl_mn_rfl : fl_mn h h)))
  all_goals (try exact fl_Am_li (fun _ _ _ => (fl_mn_rfl : fl_mn h h)))
  all_goals (try exact fl_Am_i1 (fun _ _ => (fl_mn_rfl : fl_mn h h)))
  all_goals (try exact fl_Am_l1 (fun _ _ => (fl_mn_rfl : fl_mn h h)))
  all_goals (try exact fl_Am_r1 (fun _ _ => (fl_mn_rfl : fl_mn h h)))
  all_goals (try exact fl_Am_ri (fun _ _ _ => (fl_mn_rfl : fl_mn h h)))
  all_goals (try exact fl_Am_rii (fun _ _ _ _ => (fl_mn_rfl : fl_mn h h)))
  all_goals (try exact fl_Am_ril (fun _ _ _ _ => (fl_mn_rfl : fl_mn h h)))
  all_goals (try exact fl_Am_iv (fun _ => (fl_mn_rfl : fl_mn h h)))
  all_goals (try exact fl_Am_lv (fun _ => (fl_mn_rfl : fl_mn h h)))
  all_goals (try exact fl_Am_rv (fun _ => (fl_mn_rfl : fl_mn h h)))
  all_goals (try exact fl_Am_i1 (fun _ _ => (fl_mn_mk : fl_mn h _)))
  all_goals (dsimp only [fl_step])
  all_goals (try exact fl_Am_call)
  all_goals (split)
  all_goals (try exact trivial)
  all_goals (try exact (fl_mn_rfl : fl_mn h h))
  all_goals (try exact fl_Am_call)
  all_goals (try exact (fl_mn_mk : fl_mn h _))
  all_goals (try exact (fl_mn_th : fl_mn h _))
  all_goals (try exact fl_Am_r1 (fun _ _ => (fl_mn_rfl : fl_mn h h)))
  all_goals (try exact fl_Am_rl (fun _ _ _ => (fl_mn_rfl : fl_mn h h)))
  all_goals (try exact fl_Am_rr (fun _ _ _ => (fl_mn_rfl : fl_mn h h)))
  all_goals (split)
  all_goals (try exact trivial)
  all_goals (exact (fl_mn_rfl : fl_mn h h))
end FLM
theorem fl_swi_mn {h : fl_H} {o : fl_O} {x : Int32} {k : Nat → Option fl_O} (hk : ∀ t, k t = some o → fl_mn h o.2) (d : Nat) : ∀ l : List (Int32 × Nat), fl_swi x k d l = some o → fl_mn h o.2
  | [], hφ => hk d hφ
  | (v, t) :: l, hφ => by
    unfold fl_swi at hφ
    by_cases hv : x = v
    · rw [if_pos hv] at hφ; exact hk t hφ
    · rw [if_neg hv] at hφ; exact fl_swi_mn hk d l hφ
theorem fl_phi_mn {nx : Nat → fl_L → List Value → fl_H → Option fl_O} {cl : Nat → List Value → fl_H → Option fl_O} {h : fl_H} {o : fl_O} (hnx : ∀ pc L st h', nx pc L st h' = some o → fl_mn h' o.2) (hcl : ∀ a as h' r, cl a as h' = some r → fl_mn h' r.2) : ∀ s : Option (Bool × fl_A), fl_Am h s → fl_phi nx cl s = some o → fl_mn h o.2 := by
  intro s hA hφ
  cases s with
  | none => cases hφ
  | some z =>
    obtain ⟨g, x⟩ := z
    cases g with
    | false => cases hφ
    | true =>
      rcases x with ⟨pc, L, st, h'⟩ | ⟨b, t, f, L, st, h'⟩ | ⟨x, sw, d, L, st, h'⟩ | ⟨m', as, pc, L, r, sw, h'⟩ | ⟨r, h'⟩
      · exact fl_mn.trans hA (hnx _ _ _ _ hφ)
      · cases b
        · exact fl_mn.trans hA (hnx _ _ _ _ hφ)
        · exact fl_mn.trans hA (hnx _ _ _ _ hφ)
      · exact fl_mn.trans hA (fl_swi_mn (fun t ht => hnx _ _ _ _ ht) d sw hφ)
      · obtain ⟨q, hq1, hq2⟩ := fl_aft_inv hφ
        refine fl_mn.trans hA (fl_mn.trans (hcl _ _ _ _ hq1) ?_)
        rcases hq2 with ⟨v, -, hn⟩ | ⟨-, x, t, l9, -, hn⟩
        · exact hnx _ _ _ _ hn
        · exact hnx _ _ _ _ hn
      · have hφ : some (r, h') = some o := hφ
        cases hφ
        exact hA
theorem fl_ex_mn {C : Nat → Nat → Option fl_E} : ∀ (n m pc : Nat) (L : fl_L) (st : List Value) (h : fl_H) (o : fl_O), fl_ex C n m pc L st h = some o → fl_mn h o.2
  | 0, _, _, _, _, _, _, hx => by cases hx
  | n + 1, m, pc, L, st, h, o, hx => by
    rw [fl_ex] at hx
    cases hc : C m pc with
    | none => rw [hc] at hx; cases hx
    | some e =>
      rw [hc] at hx
      exact fl_phi_mn (fun pc L st h' z => fl_ex_mn n m pc _ st h' o z) (fun a as h' r z => fl_ex_mn n a 0 _ [] h' r z) _ (fl_step_mn e pc) hx
