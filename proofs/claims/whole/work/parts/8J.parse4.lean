/-! A NET THAT IS READ: what is told of a refusal is small -/
section
variable {g tx : Nat → Nat} {tn a s W w : Nat} {P : fl_Ps}
def fl_okE (tn : Nat) (e : fl_Fa) : Prop := e.1 ≤ tn ∧ ∃ L il k n, e.2 = fl_why L il k n e.1 ∧ L ≤ 12 ∧ n ≤ 12 ∧ (k = 3 ∨ k = 4 ∨ k = 5)
theorem fl_bnd_inr {x : fl_Ps ⊕ fl_Fa} {f : fl_Ps → fl_Ps ⊕ fl_Fa} {e : fl_Fa} (q : fl_bnd x f = .inr e) : x = .inr e ∨ ∃ P, x = .inl P ∧ f P = .inr e := by
  cases x with
  | inl P => exact Or.inr ⟨P, rfl, q⟩
  | inr y => unfold fl_bnd at q; cases q; exact Or.inl rfl
theorem fl_rpin_e {e : fl_Fa} (q : fl_rpin tx tn s P = .inr e) (h0 : P.2 0 ≤ 12) (pt : P.1 ≤ tn) : fl_okE tn e := by
  have ll := fl_ltr_le (tx := tx) (tn := tn) (a := P.1)
  unfold fl_rpin at q
  split at q
  · cases q; exact ⟨pt, _, true, 3, 0, rfl, h0, Nat.zero_le _, by omega⟩
  · split at q
    · cases q; exact ⟨pt, _, true, 5, _, rfl, h0, ll, by omega⟩
    · split at q
      · cases q; exact ⟨pt, _, true, 4, 0, rfl, h0, Nat.zero_le _, by omega⟩
      · cases q
theorem fl_rline_e {e : fl_Fa} (q : fl_rline tx tn P = .inr e) (I : fl_RI P.2) (pt : P.1 ≤ tn) : fl_okE tn e := by
  have p := I.1.1
  have rg : fl_rgs P.2 ≤ 3 := I.1.2.2.2.2.2.2.2.2.2
  have s8 := fl_sra_8 (tx := tx) (tn := tn) (a := P.1)
  have lt := fl_sra_lt (tx := tx) (tn := tn) (a := P.1)
  unfold fl_rline at q
  generalize fl_sra tx tn P.1 = s at *
  by_cases c1 : s = 0
  · rw [if_pos c1] at q
    cases q; exact ⟨pt, _, false, 3, 0, rfl, by omega, Nat.zero_le _, by omega⟩
  · rw [if_neg c1] at q
    by_cases c2 : P.2 0 = 12 ∨ (s = 8 ∧ fl_rgs P.2 = 3)
    · rw [if_pos c2] at q
      cases q; exact ⟨pt, _, true, 4, 0, rfl, by omega, Nat.zero_le _, by omega⟩
    · rw [if_neg c2] at q
      have a1 := lt c1
      have R0 : fl_RQ s (P.2 2) 0 (fl_go P.2 s) := fl_RQ_go I (by omega) (by omega) (fun z => by omega)
      rcases fl_bnd_inr q with q1 | ⟨P3, e3, f3⟩
      · rcases fl_bnd_inr q1 with q2 | ⟨P2, e2, f2⟩
        · rcases fl_bnd_inr q2 with q3 | ⟨P1, e1, f1⟩
          · exact fl_rpin_e q3 (Nat.le_of_lt R0.2.2.2.1) (by dsimp only; omega)
          · have R1 := fl_rpin_ok e1 R0
            have r2 := R1.2.1
            dsimp only at r2
            unfold fl_rpin2 at f1
            split at f1
            · exact fl_rpin_e f1 (Nat.le_of_lt R1.1.2.2.2.1) (by omega)
            · cases f1
        · obtain ⟨P1, e1, f1⟩ := fl_bnd_inl e2
          have R1 := fl_rpin_ok e1 R0
          have r2 := R1.2.1
          dsimp only at r2
          have R2 : (∃ w, fl_RQ s (P.2 2) w P2.2) ∧ P2.1 ≤ tn := by
            unfold fl_rpin2 at f1
            split at f1
            · have k := fl_rpin_ok f1 R1.1
              exact ⟨⟨_, k.1⟩, by omega⟩
            · cases f1; exact ⟨⟨_, R1.1⟩, by omega⟩
          obtain ⟨⟨w2, R2⟩, t2⟩ := R2
          unfold fl_rpin3 at f2
          split at f2
          · exact fl_rpin_e f2 (Nat.le_of_lt R2.2.2.2.1) t2
          · cases f2
      · unfold fl_rend at f3
        split at f3 <;> cases f3
theorem fl_rlines_e : ∀ n (P : fl_Ps) (e : fl_Fa), fl_rlines tx tn n P = .inr e → fl_RI P.2 → P.1 ≤ tn → fl_okE tn e
  | 0, P, e, q, I, pt => by rw [fl_rlines] at q; cases q
  | n + 1, P, e, q, I, pt => by
    rw [fl_rlines] at q
    by_cases c : P.1 < tn ∧ tx P.1 = 59
    · rw [if_pos c] at q
      rcases fl_bnd_inr q with q1 | ⟨P1, e1, f1⟩
      · exact fl_rline_e (P := (P.1 + 1, P.2)) q1 I (by dsimp only; omega)
      · have k := fl_rline_ok (P := (P.1 + 1, P.2)) e1 I
        exact fl_rlines_e n P1 e f1 k.1 k.2.1
    · rw [if_neg c] at q; cases q
theorem fl_rout_e {e : fl_Fa} (q : fl_rout tx tn P = .inr e) (h0 : P.2 0 ≤ 12) (pt : P.1 ≤ tn) : fl_okE tn e := by
  have ll := fl_ltr_le (tx := tx) (tn := tn) (a := P.1)
  unfold fl_rout at q
  split at q
  · cases q; exact ⟨pt, _, false, 3, 0, rfl, h0, Nat.zero_le _, by omega⟩
  · split at q
    · cases q; exact ⟨pt, _, false, 5, _, rfl, h0, ll, by omega⟩
    · split at q
      · cases q; exact ⟨pt, _, false, 4, 0, rfl, h0, Nat.zero_le _, by omega⟩
      · cases q
theorem fl_routs_e : ∀ n (P : fl_Ps) (e : fl_Fa), fl_routs tx tn n P = .inr e → fl_RO P.2 → P.1 ≤ tn → fl_okE tn e
  | 0, P, e, q, I, pt => by rw [fl_routs] at q; cases q
  | n + 1, P, e, q, I, pt => by
    rw [fl_routs] at q
    have p := I.1.1
    by_cases c : P.1 < tn
    · rw [if_pos c] at q
      rcases fl_bnd_inr q with q1 | ⟨P1, e1, f1⟩
      · exact fl_rout_e q1 (by omega) pt
      · have k := fl_rout_ok e1 I
        exact fl_routs_e n P1 e f1 k.1 (by omega)
    · rw [if_neg c] at q; cases q
theorem fl_read_e {e : fl_Fa} (q : fl_read tx tn = .inr e) : fl_okE tn e := by
  unfold fl_read at q
  rcases fl_bnd_inr q with q1 | ⟨P2, e2, f2⟩
  · rcases fl_bnd_inr q1 with q2 | ⟨P1, e1, f1⟩
    · unfold fl_rinp at q2
      split at q2
      · cases q2
      · cases q2; exact ⟨Nat.zero_le _, 0, false, 3, 0, rfl, Nat.zero_le _, Nat.zero_le _, by omega⟩
    · have k := fl_rinp_ok e1
      exact fl_rlines_e 80 P1 e f1 k.1 (by omega)
  · obtain ⟨P1, e1, f1⟩ := fl_bnd_inl e2
    have k := fl_rinp_ok e1
    have k2 := fl_rlines_ok 80 P1 P2 f1 k.1 (by omega)
    have p := k2.1.1.1
    unfold fl_rcol at f2
    by_cases c : P2.1 < tn ∧ tx P2.1 = 58
    · rw [if_pos c] at f2
      rcases fl_bnd_inr f2 with q3 | ⟨P3, e3, f3⟩
      · exact fl_rout_e q3 (by dsimp only; omega) (by dsimp only; omega)
      · have k3 := fl_rout_ok (P := (P2.1 + 1, P2.2)) e3 (fl_RO_RI k2.1)
        have k4 := k3.2.1
        dsimp only at k4
        exact fl_routs_e 80 P3 e f3 k3.1 (by omega)
    · rw [if_neg c] at f2
      cases f2; exact ⟨k2.2.1, _, false, 3, 0, rfl, by omega, Nat.zero_le _, by omega⟩
/-- causes are at most four, and small -/
theorem fl_nca_b (t80 : tn ≤ 80) : (fl_nca (fl_read tx tn)).length ≤ 4 ∧ ∀ j, j < (fl_nca (fl_read tx tn)).length → ((fl_nca (fl_read tx tn)).getD j (0, 0)).1 < 256 ∧ ((fl_nca (fl_read tx tn)).getD j (0, 0)).2 < 256 := by
  have K : ∀ l : List (Nat × Nat), l.length ≤ 4 → (∀ p ∈ l, p.1 < 256 ∧ p.2 < 256) → l.length ≤ 4 ∧ ∀ j, j < l.length → (l.getD j (0, 0)).1 < 256 ∧ (l.getD j (0, 0)).2 < 256 := fun l a b => ⟨a, fun j hj => by
    rw [List.getD_eq_getElem?_getD, List.getElem?_eq_getElem hj, Option.getD_some]
    exact b _ (List.getElem_mem hj)⟩
  cases q : fl_read tx tn with
  | inr e =>
    obtain ⟨et, L, il, k, n, el, hL, hn, hk⟩ := fl_read_e q
    have this : fl_nca (.inr e) = e.2 := rfl
    rw [this, el]
    clear this el q
    rcases hk with hk | hk | hk
    · subst hk
      cases il
      · rw [show fl_why L false 3 n e.1 = [(1, L), (3, e.1)] from rfl]
        refine K _ (by simp only [List.length_cons, List.length_nil]; omega) (fun p hp => ?_)
        simp only [List.mem_cons, List.not_mem_nil, or_false] at hp
        rcases hp with rfl | rfl <;> exact ⟨by dsimp only; omega, by dsimp only; omega⟩
      · rw [show fl_why L true 3 n e.1 = [(1, L), (2, L), (3, e.1)] from rfl]
        refine K _ (by simp only [List.length_cons, List.length_nil]; omega) (fun p hp => ?_)
        simp only [List.mem_cons, List.not_mem_nil, or_false] at hp
        rcases hp with rfl | rfl | rfl <;> exact ⟨by dsimp only; omega, by dsimp only; omega⟩
    · subst hk
      cases il
      · rw [show fl_why L false 4 n e.1 = [(1, L), (4, e.1)] from rfl]
        refine K _ (by simp only [List.length_cons, List.length_nil]; omega) (fun p hp => ?_)
        simp only [List.mem_cons, List.not_mem_nil, or_false] at hp
        rcases hp with rfl | rfl <;> exact ⟨by dsimp only; omega, by dsimp only; omega⟩
      · rw [show fl_why L true 4 n e.1 = [(1, L), (2, L), (4, e.1)] from rfl]
        refine K _ (by simp only [List.length_cons, List.length_nil]; omega) (fun p hp => ?_)
        simp only [List.mem_cons, List.not_mem_nil, or_false] at hp
        rcases hp with rfl | rfl | rfl <;> exact ⟨by dsimp only; omega, by dsimp only; omega⟩
    · subst hk
      cases il
      · rw [show fl_why L false 5 n e.1 = [(1, L), (5, n), (3, e.1)] from rfl]
        refine K _ (by simp only [List.length_cons, List.length_nil]; omega) (fun p hp => ?_)
        simp only [List.mem_cons, List.not_mem_nil, or_false] at hp
        rcases hp with rfl | rfl | rfl <;> exact ⟨by dsimp only; omega, by dsimp only; omega⟩
      · rw [show fl_why L true 5 n e.1 = [(1, L), (2, L), (5, n), (3, e.1)] from rfl]
        refine K _ (by simp only [List.length_cons, List.length_nil]; omega) (fun p hp => ?_)
        simp only [List.mem_cons, List.not_mem_nil, or_false] at hp
        rcases hp with rfl | rfl | rfl | rfl <;> exact ⟨by dsimp only; omega, by dsimp only; omega⟩
  | inl P =>
    have ok := fl_read_ok q
    by_cases f : fl_any (fl_far P.2) (P.2 0) = true
    · have this : fl_nca (.inl P) = fl_toofar P.2 := if_pos f
      rw [this]
      have sp := fl_frst_sp f
      have p := ok.1.1.1
      have f20 : P.2 (16 + fl_frst (fl_far P.2) (P.2 0)) ≤ 20 := by
        by_cases l : fl_frst (fl_far P.2) (P.2 0) < P.2 1
        · have := (ok.1.1.2.1 _ l).2.1; omega
        · have := ok.1.1.2.2.1 _ (Nat.le_of_not_lt l) sp.1; omega
      have b := ok.1.2.1.1 (52 + P.2 (16 + fl_frst (fl_far P.2) (P.2 0))) (by omega)
      have sl := sp.1
      unfold fl_toofar
      refine K _ (by simp only [List.length_cons, List.length_nil]; omega) (fun p hp => ?_)
      simp only [List.mem_cons, List.not_mem_nil, or_false] at hp
      rcases hp with rfl | rfl | rfl <;> exact ⟨by dsimp only; omega, by dsimp only; omega⟩
    · have this : fl_nca (.inl P) = [] := if_neg f
      rw [this]
      exact ⟨Nat.zero_le _, fun j hj => absurd hj (Nat.not_lt_zero j)⟩
end
