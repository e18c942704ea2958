/-! A NET THAT IS READ: lines and outputs, what they keep to -/
section
variable {g tx : Nat → Nat} {tn a s W w : Nat} {P : fl_Ps}
theorem fl_bnd_inl {x : fl_Ps ⊕ fl_Fa} {f : fl_Ps → fl_Ps ⊕ fl_Fa} {P' : fl_Ps} (e : fl_bnd x f = .inl P') : ∃ P, x = .inl P ∧ f P = .inl P' := by
  cases x with
  | inl P => exact ⟨P, rfl, e⟩
  | inr y => unfold fl_bnd at e; cases e
theorem fl_sra_8 : fl_sra tx tn a ≤ 8 := by
  unfold fl_sra
  split
  · exact fl_srt_8 _
  · omega
theorem fl_sra_lt (h : fl_sra tx tn a ≠ 0) : a < tn := by
  unfold fl_sra at h
  by_cases q : a < tn
  · exact q
  · rw [if_neg q] at h; exact absurd rfl h
theorem fl_rline_ok {P' : fl_Ps} (e : fl_rline tx tn P = .inl P') (I : fl_RI P.2) : fl_RI P'.2 ∧ P'.1 ≤ tn ∧ P.1 ≤ P'.1 := by
  unfold fl_rline at e
  have s8 := fl_sra_8 (tx := tx) (tn := tn) (a := P.1)
  have lt := fl_sra_lt (tx := tx) (tn := tn) (a := P.1)
  generalize fl_sra tx tn P.1 = s at *
  have p1 := I.1.1
  have rg : fl_rgs P.2 ≤ 3 := I.1.2.2.2.2.2.2.2.2.2
  by_cases c1 : s = 0
  · rw [if_pos c1] at e; cases e
  · rw [if_neg c1] at e
    by_cases c2 : P.2 0 = 12 ∨ (s = 8 ∧ fl_rgs P.2 = 3)
    · rw [if_pos c2] at e; cases e
    · rw [if_neg c2] at e
      have a1 := lt c1
      obtain ⟨P3, e3, f3⟩ := fl_bnd_inl e
      obtain ⟨P2, e2, f2⟩ := fl_bnd_inl e3
      obtain ⟨P1, e1, f1⟩ := fl_bnd_inl e2
      have R0 : fl_RQ s (P.2 2) 0 (fl_go P.2 s) := fl_RQ_go I (by omega) (by omega) (fun z => by omega)
      have R1 := fl_rpin_ok (P := (P.1 + 1, fl_go P.2 s)) e1 R0
      have R2 : ∃ w, ((s = 1 ∨ s = 2 ∨ s = 8) ↔ w = 1) ∧ 1 ≤ w ∧ w ≤ 2 ∧ fl_RQ s (P.2 2) w P2.2 ∧ P1.1 ≤ P2.1 ∧ P2.1 ≤ tn := by
        unfold fl_rpin2 at f1
        have q := R1.2.1
        have q2 := R1.2.2
        dsimp only at q q2
        by_cases c3 : 3 ≤ s ∧ s ≤ 7
        · rw [if_pos c3] at f1
          have R := fl_rpin_ok f1 R1.1
          exact ⟨2, by omega, by omega, by omega, R.1, by omega, by omega⟩
        · rw [if_neg c3] at f1
          cases f1
          exact ⟨1, by omega, by omega, by omega, R1.1, Nat.le_refl _, by omega⟩
      obtain ⟨w, w1, w2, w3, R2, l2, t2⟩ := R2
      have R3 : ∃ w, ((s = 1 ∨ s = 2 ∨ s = 8) ↔ w = 1) ∧ 1 ≤ w ∧ w ≤ 3 ∧ fl_RQ s (P.2 2) w P3.2 ∧ P2.1 ≤ P3.1 ∧ P3.1 ≤ tn := by
        unfold fl_rpin3 at f2
        by_cases c3 : 3 ≤ s ∧ s ≤ 7 ∧ fl_ltr tx tn P2.1 ≠ 12
        · rw [if_pos c3] at f2
          have R := fl_rpin_ok f2 R2
          exact ⟨w + 1, by omega, by omega, by omega, R.1, by omega, by omega⟩
        · rw [if_neg c3] at f2
          cases f2
          exact ⟨w, w1, w2, by omega, R2, Nat.le_refl _, t2⟩
      obtain ⟨w', w1', w2', w3', R3, l3, t3⟩ := R3
      have q := R1.2.1
      dsimp only at q
      unfold fl_rend at f3
      by_cases c4 : s = 8 ∧ P3.1 < tn ∧ (tx P3.1 = 48 ∨ tx P3.1 = 49)
      · rw [if_pos c4] at f3
        cases f3
        have h4 := c4.2
        exact ⟨fl_RI_gc R3 ⟨w2', w3'⟩ w1' ⟨by omega, fun z => absurd c4.1 z⟩, by dsimp only; omega, by dsimp only; omega⟩
      · rw [if_neg c4] at f3
        cases f3
        exact ⟨fl_RI_gc R3 ⟨w2', w3'⟩ w1' ⟨by omega, fun _ => rfl⟩, t3, by dsimp only; omega⟩
theorem fl_rlines_ok : ∀ n (P P' : fl_Ps), fl_rlines tx tn n P = .inl P' → fl_RI P.2 → P.1 ≤ tn → fl_RI P'.2 ∧ P'.1 ≤ tn ∧ P.1 ≤ P'.1
  | 0, P, P', e, I, pt => by
    rw [fl_rlines] at e
    cases e
    exact ⟨I, pt, Nat.le_refl _⟩
  | n + 1, P, P', e, I, pt => by
    rw [fl_rlines] at e
    by_cases c : P.1 < tn ∧ tx P.1 = 59
    · rw [if_pos c] at e
      obtain ⟨P1, e1, f1⟩ := fl_bnd_inl e
      have a := fl_rline_ok (P := (P.1 + 1, P.2)) e1 I
      have b := fl_rlines_ok n P1 P' f1 a.1 a.2.1
      have a2 := a.2.2
      dsimp only at a2
      exact ⟨b.1, b.2.1, by omega⟩
    · rw [if_neg c] at e
      cases e
      exact ⟨I, pt, Nat.le_refl _⟩
theorem fl_rout_ok {P' : fl_Ps} (e : fl_rout tx tn P = .inl P') (I : fl_RO P.2) : fl_RO P'.2 ∧ P'.1 = P.1 + 1 ∧ P.1 < tn ∧ P'.2 3 = P.2 3 + 1 := by
  have ll := fl_ltr_le (tx := tx) (tn := tn) (a := P.1)
  have lt : fl_ltr tx tn P.1 ≠ 12 → P.1 < tn := fun z => by
    by_cases q : P.1 < tn
    · exact q
    · exact absurd (by unfold fl_ltr; exact if_neg (fun y => q y.1)) z
  have i3 := I.2.2.1
  unfold fl_rout at e
  by_cases c1 : fl_ltr tx tn P.1 = 12
  · rw [if_pos c1] at e; cases e
  · rw [if_neg c1] at e
    by_cases c2 : P.2 0 ≤ fl_ltr tx tn P.1 ∨ fl_isO P.2 (fl_ltr tx tn P.1) = true
    · rw [if_pos c2] at e; cases e
    · rw [if_neg c2] at e
      by_cases c3 : P.2 3 = 4
      · rw [if_pos c3] at e; cases e
      · rw [if_neg c3] at e
        cases e
        have of : fl_isO P.2 (fl_ltr tx tn P.1) = false := by
          cases z : fl_isO P.2 (fl_ltr tx tn P.1) with
          | false => rfl
          | true => exact absurd (Or.inr z) c2
        exact ⟨fl_RO_gq I (by omega) (by omega) of, rfl, lt c1, (fl_gq_at (g := P.2) (k := fl_ltr tx tn P.1)).2⟩
theorem fl_routs_ok : ∀ n (P P' : fl_Ps), fl_routs tx tn n P = .inl P' → fl_RO P.2 → fl_RO P'.2 ∧ P.2 3 ≤ P'.2 3
  | 0, P, P', e, I => by
    rw [fl_routs] at e
    cases e
    exact ⟨I, Nat.le_refl _⟩
  | n + 1, P, P', e, I => by
    rw [fl_routs] at e
    by_cases c : P.1 < tn
    · rw [if_pos c] at e
      obtain ⟨P1, e1, f1⟩ := fl_bnd_inl e
      have a := fl_rout_ok e1 I
      have b := fl_routs_ok n P1 P' f1 a.1
      exact ⟨b.1, by omega⟩
    · rw [if_neg c] at e
      cases e
      exact ⟨I, Nat.le_refl _⟩
theorem fl_rcol_ok {P' : fl_Ps} (e : fl_rcol tx tn P = .inl P') (I : fl_RI P.2) : fl_RO P'.2 ∧ 1 ≤ P'.2 3 := by
  unfold fl_rcol at e
  by_cases c : P.1 < tn ∧ tx P.1 = 58
  · rw [if_pos c] at e
    obtain ⟨P1, e1, f1⟩ := fl_bnd_inl e
    have a := fl_rout_ok (P := (P.1 + 1, P.2)) e1 (fl_RO_RI I)
    have b := fl_routs_ok 80 P1 P' f1 a.1
    exact ⟨b.1, by omega⟩
  · rw [if_neg c] at e; cases e
theorem fl_rinp_ok {P' : fl_Ps} (e : fl_rinp tx tn = .inl P') : fl_RI P'.2 ∧ P'.1 = 1 ∧ 0 < tn := by
  unfold fl_rinp at e
  by_cases c : 0 < tn ∧ 49 ≤ tx 0 ∧ tx 0 ≤ 52
  · rw [if_pos c] at e
    cases e
    exact ⟨fl_RI_gin (by omega), rfl, c.1⟩
  · rw [if_neg c] at e; cases e
theorem fl_read_ok {P' : fl_Ps} (e : fl_read tx tn = .inl P') : fl_RO P'.2 ∧ 1 ≤ P'.2 3 := by
  unfold fl_read at e
  obtain ⟨P2, e2, f2⟩ := fl_bnd_inl e
  obtain ⟨P1, e1, f1⟩ := fl_bnd_inl e2
  have a := fl_rinp_ok e1
  have b := fl_rlines_ok 80 P1 P2 f1 a.1 (by omega)
  exact fl_rcol_ok f2 b.1
end
