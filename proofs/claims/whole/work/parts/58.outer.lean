/-! WHAT LIES OUTSIDE (strings, their bytes, the script) stays as it is, whatever runs -/
def fl_sx (h h' : fl_H) : Prop := h.1.1 ≤ h'.1.1 ∧ (h'.1.1 ≤ 285 → ∀ q, 285 ≤ q → fl_k h' q = fl_k h q ∧ (5 ≤ (fl_k h q).1 → fl_i h' q = fl_i h q))
theorem fl_sx_rfl {h : fl_H} : fl_sx h h := ⟨Nat.le_refl _, fun _ _ _ => ⟨rfl, fun _ => rfl⟩⟩
theorem fl_sx.trans {h h' h2 : fl_H} (p : fl_sx h h') (q : fl_sx h' h2) : fl_sx h h2 := by
  have p1 := p.1
  have q1 := q.1
  refine ⟨Nat.le_trans p1 q1, fun z a ha => ?_⟩
  have y := q.2 z a ha
  have x := p.2 (by omega) a ha
  refine ⟨y.1.trans x.1, fun w => (y.2 ?_).trans (x.2 w)⟩
  rw [x.1]; exact w
theorem fl_sx_si {h : fl_H} {a j : Nat} {x : Int32} (hk : (fl_k h a).1 < 5) : fl_sx h (fl_si h a j x) := by
  refine ⟨Nat.le_refl _, fun _ q _ => ⟨rfl, fun w => ?_⟩⟩
  funext i
  show fl_u h.2.2.2.1 a j x q i = h.2.2.2.1 q i
  unfold fl_u
  by_cases e : q = a
  · subst e; omega
  · simp [e]
theorem fl_sx_sl {h : fl_H} {a j : Nat} {x : Int64} : fl_sx h (fl_sl h a j x) := ⟨Nat.le_refl _, fun _ _ _ => ⟨rfl, fun _ => rfl⟩⟩
theorem fl_sx_sr {h : fl_H} {a j : Nat} {x : Nat} : fl_sx h (fl_sr h a j x) := ⟨Nat.le_refl _, fun _ _ _ => ⟨rfl, fun _ => rfl⟩⟩
theorem fl_sx_th {h : fl_H} : fl_sx h (fl_th h) := ⟨Nat.le_refl _, fun _ _ _ => ⟨rfl, fun _ => rfl⟩⟩
theorem fl_sx_mk {h : fl_H} {kd : Nat × Nat} {n : Nat} : fl_sx h (fl_mk h kd n) := by
  refine ⟨Nat.le_succ _, fun z q hq => ?_⟩
  have z : h.1.1 + 1 ≤ 285 := z
  have e : q ≠ h.1.1 := by omega
  refine ⟨if_neg e, fun _ => ?_⟩
  funext i
  exact if_neg e
def fl_As (h : fl_H) : Option (Bool × fl_A) → Prop
  | none => True
  | some (g, .inl (_, _, _, h')) => g = true → fl_sx h h'
  | some (g, .inr (.inl (_, _, _, _, _, h'))) => g = true → fl_sx h h'
  | some (g, .inr (.inr (.inl (_, _, _, _, _, h')))) => g = true → fl_sx h h'
  | some (g, .inr (.inr (.inr (.inl (_, _, _, _, _, _, h'))))) => g = true → fl_sx h h'
  | some (g, .inr (.inr (.inr (.inr (_, h'))))) => g = true → fl_sx h h'
section FLS
variable {h : fl_H} {st : List Value} {L : fl_L}
theorem fl_As_ii {k : Int32 → Int32 → List Value → Option (Bool × fl_A)} (hk : ∀ x y r, fl_As h (k x y r)) : fl_As h (fl_ii st k) := by
  unfold fl_ii; split
  · exact hk _ _ _
  · trivial
theorem fl_As_ll {k : Int64 → Int64 → List Value → Option (Bool × fl_A)} (hk : ∀ x y r, fl_As h (k x y r)) : fl_As h (fl_ll st k) := by
  unfold fl_ll; split
  · exact hk _ _ _
  · trivial
theorem fl_As_li {k : Int64 → Int32 → List Value → Option (Bool × fl_A)} (hk : ∀ x y r, fl_As h (k x y r)) : fl_As h (fl_li st k) := by
  unfold fl_li; split
  · exact hk _ _ _
  · trivial
theorem fl_As_i1 {k : Int32 → List Value → Option (Bool × fl_A)} (hk : ∀ x r, fl_As h (k x r)) : fl_As h (fl_i1 st k) := by
  unfold fl_i1; split
  · exact hk _ _
  · trivial
theorem fl_As_l1 {k : Int64 → List Value → Option (Bool × fl_A)} (hk : ∀ x r, fl_As h (k x r)) : fl_As h (fl_l1 st k) := by
  unfold fl_l1; split
  · exact hk _ _
  · trivial
theorem fl_As_r1 {k : Nat → List Value → Option (Bool × fl_A)} (hk : ∀ x r, fl_As h (k x r)) : fl_As h (fl_r1 st k) := by
  unfold fl_r1; split
  · exact hk _ _
  · trivial
theorem fl_As_ri {k : Nat → Int32 → List Value → Option (Bool × fl_A)} (hk : ∀ x y r, fl_As h (k x y r)) : fl_As h (fl_ri st k) := by
  unfold fl_ri; split
  · exact hk _ _ _
  · trivial
theorem fl_As_rii {k : Nat → Int32 → Int32 → List Value → Option (Bool × fl_A)} (hk : ∀ x y z r, fl_As h (k x y z r)) : fl_As h (fl_rii st k) := by
  unfold fl_rii; split
  · exact hk _ _ _ _
  · trivial
theorem fl_As_ril {k : Nat → Int32 → Int64 → List Value → Option (Bool × fl_A)} (hk : ∀ x y z r, fl_As h (k x y z r)) : fl_As h (fl_ril st k) := by
  unfold fl_ril; split
  · exact hk _ _ _ _
  · trivial
theorem fl_As_rl {k : Nat → Int64 → List Value → Option (Bool × fl_A)} (hk : ∀ x y r, fl_As h (k x y r)) : fl_As h (fl_rl st k) := by
  unfold fl_rl; split
  · exact hk _ _ _
  · trivial
theorem fl_As_rr {k : Nat → Nat → List Value → Option (Bool × fl_A)} (hk : ∀ x y r, fl_As h (k x y r)) : fl_As h (fl_rr st k) := by
  unfold fl_rr; split
  · exact hk _ _ _
  · trivial
theorem fl_As_iv {a : Nat} {k : Int32 → Option (Bool × fl_A)} (hk : ∀ x, fl_As h (k x)) : fl_As h (fl_iv L a k) := by
  unfold fl_iv; split
  · exact hk _
  · trivial
theorem fl_As_lv {a : Nat} {k : Int64 → Option (Bool × fl_A)} (hk : ∀ x, fl_As h (k x)) : fl_As h (fl_lv L a k) := by
  unfold fl_lv; split
  · exact hk _
  · trivial
theorem fl_As_rv {a : Nat} {k : Nat → Option (Bool × fl_A)} (hk : ∀ x, fl_As h (k x)) : fl_As h (fl_rv L a k) := by
  unfold fl_rv; split
  · exact hk _
  · trivial
theorem fl_As_call {e : fl_E} {pc : Nat} : fl_As h (fl_call e pc L st h) := by
  obtain ⟨ins, len, a, b, c, d, p, x, q, sw, lv⟩ := e
  unfold fl_call
  dsimp only
  split
  · exact fun _ => fl_sx_rfl
  · trivial
theorem fl_sx_g1 {a j c : Nat} {x : Int32} {b : Bool} (hg : (decide (fl_k h a = (1, c)) && b) = true) : fl_sx h (fl_si h a j x) := by
  have := of_decide_eq_true (Bool.and_eq_true_iff.mp hg).1
  exact fl_sx_si (by rw [this]; show 1 < 5; omega)
theorem fl_sx_g0 {a j c : Nat} {x : Int32} (hg : decide (fl_k h a = (1, c)) = true) : fl_sx h (fl_si h a j x) := by
  have := of_decide_eq_true hg
  exact fl_sx_si (by rw [this]; show 1 < 5; omega)
theorem fl_sx_g2 {a j : Nat} {x : Int32} {b : Bool} (hg : (decide ((fl_k h a).1 = 2) && b) = true) : fl_sx h (fl_si h a j x) := by
  have := of_decide_eq_true (Bool.and_eq_true_iff.mp hg).1
  exact fl_sx_si (by rw [this]; decide)
theorem fl_sx_g4 {a j : Nat} {x : Int32} {b b2 : Bool} (hg : (decide ((fl_k h a).1 = 4) && b && b2) = true) : fl_sx h (fl_si h a j x) := by
  have := of_decide_eq_true (Bool.and_eq_true_iff.mp (Bool.and_eq_true_iff.mp hg).1).1
  exact fl_sx_si (by rw [this]; decide)
set_option maxHeartbeats 1000000 in
theorem fl_step_sx (e : fl_E) (pc : Nat) : fl_As h (fl_step e pc L st h) := by
  obtain ⟨ins, len, a, b, c, d, p, x, q, sw, lv⟩ := e
  cases ins
  all_goals (try exact trivial)
  all_goals (try exact (fun _ => fl_sx_rfl : true = true → fl_sx h h))
  all_goals (try exact fl_As_call)
  all_goals (try exact fl_As_ii (fun _ _ _ _ => (fl_sx_rfl : fl_sx h h)))
  all_goals (try exact fl_As_ll (fun _ _ _ _ => (fl_sx_rfl : fl_sx h h)))
  all_goals (try exact fl_As_li (fun _ _ _ _ => (fl_sx_rfl : fl_sx h h)))
  all_goals (try exact fl_As_i1 (fun _ _ _ => (fl_sx_rfl : fl_sx h h)))
  all_goals (try exact fl_As_l1 (fun _ _ _ => (fl_sx_rfl : fl_sx h h)))
  all_goals (try exact fl_As_r1 (fun _ _ _ => (fl_sx_rfl : fl_sx h h)))
  all_goals (try exact fl_As_ri (fun _ _ _ _ => (fl_sx_rfl : fl_sx h h)))
  all_goals (try exact fl_As_rii (fun _ _ _ _ hg => (fl_sx_g2 hg : fl_sx h _)))
  all_goals (try exact fl_As_rii (fun _ _ _ _ hg => (fl_sx_g4 hg : fl_sx h _)))
  all_goals (try exact fl_As_ril (fun _ _ _ _ _ => (fl_sx_sl : fl_sx h _)))
  all_goals (try exact fl_As_iv (fun _ _ => (fl_sx_rfl : fl_sx h h)))
  all_goals (try exact fl_As_lv (fun _ _ => (fl_sx_rfl : fl_sx h h)))
  all_goals (try exact fl_As_rv (fun _ _ => (fl_sx_rfl : fl_sx h h)))
  all_goals (try exact fl_As_i1 (fun _ _ _ => (fl_sx_mk : fl_sx h _)))
  all_goals (dsimp only [fl_step])
  all_goals (try exact fl_As_call)
  all_goals (split)
  all_goals (try exact trivial)
  all_goals (try exact (fun _ => fl_sx_rfl : true = true → fl_sx h h))
  all_goals (try exact fl_As_call)
  all_goals (try exact (fun _ => (fl_sx_mk : fl_sx h _)))
  all_goals (try exact (fun _ => (fl_sx_th : fl_sx h _)))
  all_goals (try exact (fun _ => (fl_sx_rfl : fl_sx h h)))
  all_goals (try exact fl_As_r1 (fun _ _ _ => (fl_sx_rfl : fl_sx h h)))
  all_goals (try exact fl_As_rl (fun _ _ _ _ => (fl_sx_sl : fl_sx h _)))
  all_goals (try exact fl_As_rr (fun _ _ _ _ => (fl_sx_sr : fl_sx h _)))
  all_goals (split)
  all_goals (try exact trivial)
  all_goals (try exact (fun hg => (fl_sx_g0 hg : fl_sx h _)))
  all_goals (try exact (fun hg => (fl_sx_g1 hg : fl_sx h _)))
  all_goals (exact (fun _ => (fl_sx_rfl : fl_sx h h)))
end FLS
theorem fl_swi_sx {h : fl_H} {o : fl_O} {x : Int32} {k : Nat → Option fl_O} (hk : ∀ t, k t = some o → fl_sx h o.2) (d : Nat) : ∀ l : List (Int32 × Nat), fl_swi x k d l = some o → fl_sx h o.2
  | [], hφ => hk d hφ
  | (v, t) :: l, hφ => by
    unfold fl_swi at hφ
    by_cases hv : x = v
    · rw [if_pos hv] at hφ; exact hk t hφ
    · rw [if_neg hv] at hφ; exact fl_swi_sx hk d l hφ
theorem fl_phi_sx {nx : Nat → fl_L → List Value → fl_H → Option fl_O} {cl : Nat → List Value → fl_H → Option fl_O} {h : fl_H} {o : fl_O} (hnx : ∀ pc L st h', nx pc L st h' = some o → fl_sx h' o.2) (hcl : ∀ a as h' r, cl a as h' = some r → fl_sx h' r.2) : ∀ s : Option (Bool × fl_A), fl_As h s → fl_phi nx cl s = some o → fl_sx h o.2 := by
  intro s hA hφ
  cases s with
  | none => cases hφ
  | some z =>
    obtain ⟨g, x⟩ := z
    cases g with
    | false => cases hφ
    | true =>
      rcases x with ⟨pc, L, st, h'⟩ | ⟨b, t, f, L, st, h'⟩ | ⟨x, sw, d, L, st, h'⟩ | ⟨m', as, pc, L, r, sw, h'⟩ | ⟨r, h'⟩
      · exact fl_sx.trans (hA rfl) (hnx _ _ _ _ hφ)
      · cases b
        · exact fl_sx.trans (hA rfl) (hnx _ _ _ _ hφ)
        · exact fl_sx.trans (hA rfl) (hnx _ _ _ _ hφ)
      · exact fl_sx.trans (hA rfl) (fl_swi_sx (fun t ht => hnx _ _ _ _ ht) d sw hφ)
      · obtain ⟨q, hq1, hq2⟩ := fl_aft_inv hφ
        refine fl_sx.trans (hA rfl) (fl_sx.trans (hcl _ _ _ _ hq1) ?_)
        rcases hq2 with ⟨v, -, hn⟩ | ⟨-, x, t, l9, -, hn⟩
        · exact hnx _ _ _ _ hn
        · exact hnx _ _ _ _ hn
      · have hφ : some (r, h') = some o := hφ
        cases hφ
        exact hA rfl
theorem fl_ex_sx {C : Nat → Nat → Option fl_E} : ∀ (n m pc : Nat) (L : fl_L) (st : List Value) (h : fl_H) (o : fl_O), fl_ex C n m pc L st h = some o → fl_sx h o.2
  | 0, _, _, _, _, _, _, hx => by cases hx
  | n + 1, m, pc, L, st, h, o, hx => by
    rw [fl_ex] at hx
    cases hc : C m pc with
    | none => rw [hc] at hx; cases hx
    | some e =>
      rw [hc] at hx
      exact fl_phi_sx (fun pc L st h' z => fl_ex_sx n m pc _ st h' o z) (fun a as h' r z => fl_ex_sx n a 0 _ [] h' r z) _ (fl_step_sx e pc) hx
theorem fl_cl_sx {m : Nat} {as : List Value} {h : fl_H} {o : fl_O} (hx : fl_cl fl_C m as h = some o) : fl_sx h o.2 := by
  obtain ⟨n, hn⟩ := (fl_Rn_iff fl_C).mp hx
  exact fl_ex_sx n m 0 _ [] h o hn
/-- the strings, and the script's cells, are as i0 says -/
def fl_st (k0 : Nat → Nat × Nat) (i0 : Nat → Nat → Int32) (h : fl_H) : Prop := ∀ q, 285 ≤ q → 5 ≤ (k0 q).1 → fl_i h q = i0 q
theorem fl_st_cl {k0 : Nat → Nat × Nat} {i0 : Nat → Nat → Int32} {m : Nat} {as : List Value} {h : fl_H} {o : fl_O} (hx : fl_cl fl_C m as h = some o) (hg : fl_g k0 h) (hs : fl_st k0 i0 h) (hc : o.2.1.1 ≤ 285) : fl_st k0 i0 o.2 := by
  intro q hq hk
  have := (fl_cl_sx hx).2 hc q hq
  rw [this.2 (by rw [hg.1]; unfold fl_KK; rw [if_neg (by omega)]; exact hk)]
  exact hs q hq hk
