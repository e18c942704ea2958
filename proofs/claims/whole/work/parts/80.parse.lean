/-! A NET THAT IS READ: the mathematics -/
abbrev fl_Ps := Nat × (Nat → Nat)
abbrev fl_Fa := Nat × List (Nat × Nat)
/-- why it is refused -/
def fl_why (L : Nat) (il : Bool) (kind num a : Nat) : List (Nat × Nat) := (1, L) :: ((if il = true then [(2, L)] else []) ++ (if kind = 5 then [(5, num), (3, a)] else [(kind, a)]))
def fl_ltr (tx : Nat → Nat) (tn a : Nat) : Nat := if a < tn ∧ 97 ≤ tx a ∧ tx a < 109 then tx a - 97 else 12
def fl_srt (x : Nat) : Nat := if x = 33 then 1 else if x = 61 then 2 else if x = 38 then 3 else if x = 124 then 4 else if x = 94 then 5 else if x = 110 then 6 else if x = 114 then 7 else if x = 35 then 8 else 0
def fl_sra (tx : Nat → Nat) (tn a : Nat) : Nat := if a < tn then fl_srt (tx a) else 0
/-- a line opened; a pin added; a line closed; an output added; inputs -/
def fl_go (g : Nat → Nat) (s : Nat) : Nat → Nat := fl_up (fl_up (fl_up (fl_up g (4 + g 0) s) (16 + g 0) (g 2)) (28 + g 0) 0) (40 + g 0) 2
def fl_gp (g : Nat → Nat) (k : Nat) : Nat → Nat := fl_up (fl_up (fl_up g (52 + g 2) k) 2 (g 2 + 1)) (28 + g 0) (g (28 + g 0) + 1)
def fl_gc (g : Nat → Nat) (v : Nat) : Nat → Nat := fl_up (fl_up g (40 + g 0) v) 0 (g 0 + 1)
def fl_gq (g : Nat → Nat) (k : Nat) : Nat → Nat := fl_up (fl_up g (72 + g 3) k) 3 (g 3 + 1)
def fl_gin (n : Nat) : Nat → Nat := fun j => if j = 0 ∨ j = 1 then n else if 40 ≤ j ∧ j < 40 + n then 2 else 0
def fl_bnd (x : fl_Ps ⊕ fl_Fa) (f : fl_Ps → fl_Ps ⊕ fl_Fa) : fl_Ps ⊕ fl_Fa := match x with | .inl P => f P | .inr e => .inr e
section
variable (tx : Nat → Nat) (tn : Nat)
def fl_rpin (s : Nat) (P : fl_Ps) : fl_Ps ⊕ fl_Fa :=
  if fl_ltr tx tn P.1 = 12 then .inr (P.1, fl_why (P.2 0) true 3 0 P.1)
  else if s ≠ 8 ∧ P.2 0 ≤ fl_ltr tx tn P.1 then .inr (P.1, fl_why (P.2 0) true 5 (fl_ltr tx tn P.1) P.1)
  else if P.2 2 = 20 then .inr (P.1, fl_why (P.2 0) true 4 0 P.1)
  else .inl (P.1 + 1, fl_gp P.2 (fl_ltr tx tn P.1))
def fl_rend (s : Nat) (P : fl_Ps) : fl_Ps ⊕ fl_Fa := if s = 8 ∧ P.1 < tn ∧ (tx P.1 = 48 ∨ tx P.1 = 49) then .inl (P.1 + 1, fl_gc P.2 (tx P.1 - 48)) else .inl (P.1, fl_gc P.2 2)
def fl_rpin2 (s : Nat) (P : fl_Ps) : fl_Ps ⊕ fl_Fa := if 3 ≤ s ∧ s ≤ 7 then fl_rpin tx tn s P else .inl P
def fl_rpin3 (s : Nat) (P : fl_Ps) : fl_Ps ⊕ fl_Fa := if 3 ≤ s ∧ s ≤ 7 ∧ fl_ltr tx tn P.1 ≠ 12 then fl_rpin tx tn s P else .inl P
def fl_rgs (g : Nat → Nat) : Nat := fl_cnt (fun k => decide (g (4 + k) = 8)) (g 0)
def fl_rline (P : fl_Ps) : fl_Ps ⊕ fl_Fa :=
  if fl_sra tx tn P.1 = 0 then .inr (P.1, fl_why (P.2 0) false 3 0 P.1)
  else if P.2 0 = 12 ∨ (fl_sra tx tn P.1 = 8 ∧ fl_rgs P.2 = 3) then .inr (P.1, fl_why (P.2 0) true 4 0 P.1)
  else fl_bnd (fl_bnd (fl_bnd (fl_rpin tx tn (fl_sra tx tn P.1) (P.1 + 1, fl_go P.2 (fl_sra tx tn P.1))) (fl_rpin2 tx tn (fl_sra tx tn P.1))) (fl_rpin3 tx tn (fl_sra tx tn P.1))) (fl_rend tx tn (fl_sra tx tn P.1))
def fl_rlines : Nat → fl_Ps → fl_Ps ⊕ fl_Fa
  | 0, P => .inl P
  | n + 1, P => if P.1 < tn ∧ tx P.1 = 59 then fl_bnd (fl_rline tx tn (P.1 + 1, P.2)) (fl_rlines n) else .inl P
def fl_isO (g : Nat → Nat) (k : Nat) : Bool := fl_any (fun j => decide (g (72 + j) = k)) (g 3)
def fl_rout (P : fl_Ps) : fl_Ps ⊕ fl_Fa :=
  if fl_ltr tx tn P.1 = 12 then .inr (P.1, fl_why (P.2 0) false 3 0 P.1)
  else if P.2 0 ≤ fl_ltr tx tn P.1 ∨ fl_isO P.2 (fl_ltr tx tn P.1) = true then .inr (P.1, fl_why (P.2 0) false 5 (fl_ltr tx tn P.1) P.1)
  else if P.2 3 = 4 then .inr (P.1, fl_why (P.2 0) false 4 0 P.1)
  else .inl (P.1 + 1, fl_gq P.2 (fl_ltr tx tn P.1))
def fl_routs : Nat → fl_Ps → fl_Ps ⊕ fl_Fa
  | 0, P => .inl P
  | n + 1, P => if P.1 < tn then fl_bnd (fl_rout tx tn P) (fl_routs n) else .inl P
def fl_rcol (P : fl_Ps) : fl_Ps ⊕ fl_Fa := if P.1 < tn ∧ tx P.1 = 58 then fl_bnd (fl_rout tx tn (P.1 + 1, P.2)) (fl_routs tx tn 80) else .inr (P.1, fl_why (P.2 0) false 3 0 P.1)
def fl_rinp : fl_Ps ⊕ fl_Fa := if 0 < tn ∧ 49 ≤ tx 0 ∧ tx 0 ≤ 52 then .inl (1, fl_gin (tx 0 - 48)) else .inr (0, fl_why 0 false 3 0 0)
def fl_read : fl_Ps ⊕ fl_Fa := fl_bnd (fl_bnd (fl_rinp tx tn) (fl_rlines tx tn 80)) (fl_rcol tx tn)
end
/-- a register that reads what there is not -/
def fl_far (g : Nat → Nat) (k : Nat) : Bool := decide (g (4 + k) = 8) && decide (g 0 ≤ g (52 + g (16 + k)))
/-- what is read of lines and pins keeps to this -/
abbrev fl_pw (g : Nat → Nat) (L P : Nat) : Prop :=
  (1 ≤ g 1 ∧ g 1 ≤ 4 ∧ g 1 ≤ L ∧ L ≤ 12 ∧ P ≤ 20) ∧
  (∀ k, k < g 1 → g (4 + k) = 0 ∧ g (16 + k) = 0 ∧ g (28 + k) = 0 ∧ g (40 + k) = 2) ∧
  (∀ k, g 1 ≤ k → k < L → 1 ≤ g (4 + k) ∧ g (4 + k) ≤ 8 ∧ 1 ≤ g (28 + k) ∧ g (28 + k) ≤ 3 ∧ g (16 + k) + g (28 + k) ≤ P ∧ g (40 + k) ≤ 2 ∧ (g (4 + k) ≠ 8 → g (40 + k) = 2) ∧ ((g (4 + k) = 1 ∨ g (4 + k) = 2 ∨ g (4 + k) = 8) ↔ g (28 + k) = 1)) ∧
  (∀ k i, g 1 ≤ k → k < L → g (4 + k) ≠ 8 → i < g (28 + k) → g (52 + (g (16 + k) + i)) < k) ∧
  (∀ p, p < P → g (52 + p) < 12) ∧
  (g 1 < L → g (16 + g 1) = 0) ∧ (∀ k, g 1 ≤ k → k + 1 < L → g (16 + (k + 1)) = g (16 + k) + g (28 + k)) ∧ (g 1 < L → g (16 + (L - 1)) + g (28 + (L - 1)) = P) ∧ (g 1 = L → P = 0) ∧
  fl_cnt (fun k => decide (g (4 + k) = 8)) L ≤ 3
section
variable {g g' : Nat → Nat} {L P : Nat}
theorem fl_pw_congr (a : fl_pw g L P) (e1 : g' 1 = g 1) (e : ∀ k, k < L → g' (4 + k) = g (4 + k) ∧ g' (16 + k) = g (16 + k) ∧ g' (28 + k) = g (28 + k) ∧ g' (40 + k) = g (40 + k)) (ep : ∀ p, p < P → g' (52 + p) = g (52 + p)) : fl_pw g' L P := by
  obtain ⟨a1, a2, a3, a4, a5, a6, a7, a8, a9, a10⟩ := a
  refine ⟨by rw [e1]; exact a1, fun k hk => ?_, fun k h1 h2 => ?_, fun k i h1 h2 h3 h4 => ?_, fun p hp => ?_, fun h => ?_, fun k h1 h2 => ?_, fun h => ?_, fun h => ?_, ?_⟩
  · rw [e1] at hk
    have q := e k (by omega)
    rw [q.1, q.2.1, q.2.2.1, q.2.2.2]
    exact a2 k hk
  · rw [e1] at h1
    have q := e k h2
    rw [q.1, q.2.1, q.2.2.1, q.2.2.2]
    exact a3 k h1 h2
  · rw [e1] at h1
    have q := e k h2
    rw [q.1] at h3
    rw [q.2.2.1] at h4
    have b := a3 k h1 h2
    rw [q.2.1, ep _ (by omega)]
    exact a4 k i h1 h2 h3 h4
  · rw [ep p hp]; exact a5 p hp
  · rw [e1] at h
    rw [e1, (e _ h).2.1]; exact a6 h
  · rw [e1] at h1
    rw [(e _ h2).2.1, (e k (by omega)).2.1, (e k (by omega)).2.2.1]
    exact a7 k h1 h2
  · rw [e1] at h
    rw [(e _ (by omega)).2.1, (e _ (by omega)).2.2.1]
    exact a8 h
  · rw [e1] at h; exact a9 h
  · rw [fl_cnt_congr (q' := fun k => decide (g (4 + k) = 8)) (fun k hk => by rw [(e k hk).1])]
    exact a10
/-- a line more -/
theorem fl_pw_line (a : fl_pw g L P) {w : Nat} (hL : L < 12) (hs : 1 ≤ g (4 + L) ∧ g (4 + L) ≤ 8) (h16 : g (16 + L) = P) (h28 : g (28 + L) = w) (hw : 1 ≤ w ∧ w ≤ 3) (hP : P + w ≤ 20) (h40 : g (40 + L) ≤ 2 ∧ (g (4 + L) ≠ 8 → g (40 + L) = 2)) (hk : (g (4 + L) = 1 ∨ g (4 + L) = 2 ∨ g (4 + L) = 8) ↔ w = 1) (hp : ∀ i, i < w → g (52 + (P + i)) < 12 ∧ (g (4 + L) ≠ 8 → g (52 + (P + i)) < L)) (hc : g (4 + L) = 8 → fl_cnt (fun k => decide (g (4 + k) = 8)) L ≤ 2) : fl_pw g (L + 1) (P + w) := by
  obtain ⟨a1, a2, a3, a4, a5, a6, a7, a8, a9, a10⟩ := a
  refine ⟨by omega, a2, fun k h1 h2 => ?_, fun k i h1 h2 h3 h4 => ?_, fun p hp' => ?_, fun h => ?_, fun k h1 h2 => ?_, fun h => ?_, fun h => by omega, ?_⟩
  · by_cases e : k = L
    · subst e
      rw [h16, h28]
      exact ⟨hs.1, hs.2, hw.1, hw.2, by omega, h40.1, h40.2, hk⟩
    · have := a3 k h1 (by omega)
      exact ⟨this.1, this.2.1, this.2.2.1, this.2.2.2.1, by omega, this.2.2.2.2.2⟩
  · by_cases e : k = L
    · subst e
      rw [h16]
      exact (hp i (by omega)).2 h3
    · exact a4 k i h1 (by omega) h3 h4
  · by_cases q : p < P
    · exact a5 p q
    · have := (hp (p - P) (by omega)).1
      rw [show P + (p - P) = p by omega] at this
      exact this
  · by_cases e : g 1 = L
    · rw [e, h16]; exact a9 e
    · exact a6 (by omega)
  · by_cases e : k + 1 = L
    · rw [e, h16]
      have := a8 (by omega)
      rw [show L - 1 = k by omega] at this
      omega
    · exact a7 k h1 (by omega)
  · rw [show L + 1 - 1 = L by omega, h16, h28]
  · rw [fl_cnt]
    by_cases e : g (4 + L) = 8
    · have := hc e
      rw [decide_eq_true e]
      exact Nat.succ_le_succ this
    · rw [decide_eq_false e]
      exact a10
/-- each pin is some line's -/
theorem fl_pw_own (a : fl_pw g L P) : ∀ n, g 1 + n ≤ L → ∀ p, (g 1 + n = L → p < P) → (g 1 + n < L → p < g (16 + (g 1 + n))) → ∃ k, g 1 ≤ k ∧ k < L ∧ g (16 + k) ≤ p ∧ p < g (16 + k) + g (28 + k)
  | 0, hn, p, h1, h2 => by
    obtain ⟨a1, a2, a3, a4, a5, a6, a7, a8, a9, a10⟩ := a
    by_cases e : g 1 = L
    · have := h1 (by omega)
      have := a9 e
      omega
    · have := h2 (by omega)
      rw [Nat.add_zero, a6 (by omega)] at this
      omega
  | n + 1, hn, p, h1, h2 => by
    obtain ⟨a1, a2, a3, a4, a5, a6, a7, a8, a9, a10⟩ := id a
    by_cases q : g (16 + (g 1 + n)) ≤ p
    · refine ⟨g 1 + n, by omega, by omega, q, ?_⟩
      by_cases e : g 1 + (n + 1) = L
      · have := h1 e
        have b := a8 (by omega)
        rw [show L - 1 = g 1 + n by omega] at b
        omega
      · have := h2 (by omega)
        have b := a7 (g 1 + n) (by omega) (by omega)
        rw [show g 1 + n + 1 = g 1 + (n + 1) by omega] at b
        omega
    · exact fl_pw_own a n (by omega) p (fun e => by omega) (fun _ => by omega)
end
