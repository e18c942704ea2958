/-! A SEARCH of patterns: states of registers and their codes -/
def fl_nr (g : Nat → Nat) (k : Nat) : Nat := fl_cnt (fun k => decide (g (4 + k) = 8)) k
/-- the class's code, of n lines from k on; the reference's, of the lines below k -/
def fl_cF (g ρ : Nat → Nat) : Nat → Nat → Nat
  | 0, _ => 0
  | n + 1, k => if g (4 + k) = 8 then ρ k + 3 * fl_cF g ρ n (k + 1) else fl_cF g ρ n (k + 1)
def fl_cR (g ρ : Nat → Nat) : Nat → Nat
  | 0 => 0
  | k + 1 => if g (4 + k) = 8 then 3 * fl_cR g ρ k + ρ k else fl_cR g ρ k
abbrev fl_cc (g ρ : Nat → Nat) : Nat := fl_cF g ρ (g 0 - g 1) (g 1)
abbrev fl_cr (g ρ : Nat → Nat) : Nat := fl_cR g ρ (g 0)
abbrev fl_r2 (g ρ : Nat → Nat) : Prop := ∀ k, k < g 0 → ρ k ≤ 2
abbrev fl_srg (g ρ ρ' : Nat → Nat) : Prop := ∀ k, k < g 0 → g (4 + k) = 8 → ρ k = ρ' k
section
variable {g ρ ρ' : Nat → Nat}
theorem fl_nr_y {k : Nat} (e : g (4 + k) = 8) : fl_nr g (k + 1) = fl_nr g k + 1 := by
  unfold fl_nr
  rw [fl_cnt, decide_eq_true e]; rfl
theorem fl_nr_n {k : Nat} (e : g (4 + k) ≠ 8) : fl_nr g (k + 1) = fl_nr g k := by
  unfold fl_nr
  rw [fl_cnt, decide_eq_false e]; rfl
theorem fl_nr_mo {k : Nat} : ∀ n, fl_nr g k ≤ fl_nr g (k + n)
  | 0 => Nat.le_refl _
  | n + 1 => by
    have := fl_nr_mo (k := k) n
    by_cases e : g (4 + (k + n)) = 8
    · rw [← Nat.add_assoc, fl_nr_y e]; omega
    · rw [← Nat.add_assoc, fl_nr_n e]; exact this
theorem fl_nr_3 (w : fl_wf g) {k : Nat} (hk : k ≤ g 0) : fl_nr g k ≤ 3 := by
  have a := fl_nr_mo (g := g) (k := k) (g 0 - k)
  have b : fl_nr g (g 0) ≤ 3 := w.2.2.2.2.2.2.2.2.2.2.2.2.2
  rw [show k + (g 0 - k) = g 0 by omega] at a
  omega
theorem fl_nr_0 (w : fl_wf g) : ∀ k, k ≤ g 1 → fl_nr g k = 0
  | 0, _ => rfl
  | k + 1, hk => by
    have := (w.2.1 k (by omega)).1
    rw [fl_nr_n (by omega), fl_nr_0 w k (by omega)]
theorem fl_cF_eq (h : fl_r2 g ρ) (h' : fl_r2 g ρ') : ∀ n k, k + n ≤ g 0 → (fl_cF g ρ n k = fl_cF g ρ' n k ↔ ∀ j, k ≤ j → j < k + n → g (4 + j) = 8 → ρ j = ρ' j)
  | 0, k, _ => ⟨fun _ j a b => by omega, fun _ => rfl⟩
  | n + 1, k, hk => by
    have ih := fl_cF_eq h h' n (k + 1) (by omega)
    have b := h k (by omega)
    have b' := h' k (by omega)
    by_cases e : g (4 + k) = 8
    · simp only [fl_cF, if_pos e]
      constructor
      · intro q j hj hj2 he
        by_cases jk : j = k
        · subst jk; omega
        · exact ih.mp (by omega) j (by omega) (by omega) he
      · intro q
        have i1 := ih.mpr (fun j a c d => q j (by omega) (by omega) d)
        have i2 := q k (Nat.le_refl k) (by omega) e
        omega
    · simp only [fl_cF, if_neg e]
      rw [ih]
      constructor
      · intro q j a c d
        by_cases jk : j = k
        · subst jk; exact absurd d e
        · exact q j (by omega) (by omega) d
      · exact fun q j a c d => q j (by omega) (by omega) d
theorem fl_cR_eq (h : fl_r2 g ρ) (h' : fl_r2 g ρ') : ∀ k, k ≤ g 0 → (fl_cR g ρ k = fl_cR g ρ' k ↔ ∀ j, j < k → g (4 + j) = 8 → ρ j = ρ' j)
  | 0, _ => ⟨fun _ j a => by omega, fun _ => rfl⟩
  | k + 1, hk => by
    have ih := fl_cR_eq h h' k (by omega)
    have b := h k (by omega)
    have b' := h' k (by omega)
    by_cases e : g (4 + k) = 8
    · simp only [fl_cR, if_pos e]
      constructor
      · intro q j hj he
        by_cases jk : j = k
        · subst jk; omega
        · exact ih.mp (by omega) j (by omega) he
      · intro q
        have i1 := ih.mpr (fun j a d => q j (by omega) d)
        have i2 := q k (by omega) e
        omega
    · simp only [fl_cR, if_neg e]
      rw [ih]
      constructor
      · intro q j a d
        by_cases jk : j = k
        · subst jk; exact absurd d e
        · exact q j (by omega) d
      · exact fun q j a d => q j (by omega) d
theorem fl_cc_eq (w : fl_wf g) (h : fl_r2 g ρ) (h' : fl_r2 g ρ') : fl_cc g ρ = fl_cc g ρ' ↔ fl_srg g ρ ρ' := by
  have w1 : g 1 ≤ g 0 := w.1.2.2.1
  refine (fl_cF_eq h h' _ _ (by omega)).trans ⟨fun q k a b => ?_, fun q k _ b => q k (by omega)⟩
  by_cases l : k < g 1
  · have := (w.2.1 k l).1; omega
  · exact q k (by omega) (by omega) b
theorem fl_cr_eq (h : fl_r2 g ρ) (h' : fl_r2 g ρ') : fl_cr g ρ = fl_cr g ρ' ↔ fl_srg g ρ ρ' := fl_cR_eq h h' _ (Nat.le_refl _)
theorem fl_cF_le (h : fl_r2 g ρ) : ∀ n k, k + n ≤ g 0 → (fl_cF g ρ n k + 1) * 3 ^ fl_nr g k ≤ 3 ^ fl_nr g (k + n)
  | 0, k, _ => by rw [fl_cF, Nat.zero_add, Nat.one_mul]; exact Nat.le_refl _
  | n + 1, k, hk => by
    have ih := fl_cF_le h n (k + 1) (by omega)
    have b := h k (by omega)
    rw [show k + 1 + n = k + (n + 1) by omega] at ih
    by_cases e : g (4 + k) = 8
    · rw [fl_cF, if_pos e]
      rw [fl_nr_y e, Nat.pow_succ, Nat.mul_comm (3 ^ fl_nr g k) 3, ← Nat.mul_assoc] at ih
      exact Nat.le_trans (Nat.mul_le_mul_right _ (by omega)) ih
    · rw [fl_cF, if_neg e]
      rw [fl_nr_n e] at ih
      exact ih
theorem fl_p3 {n : Nat} (h : n ≤ 3) : 3 ^ n ≤ 27 := by
  rcases (show n = 0 ∨ n = 1 ∨ n = 2 ∨ n = 3 by omega) with e | e | e | e <;> subst e <;> decide
theorem fl_cc_lt (w : fl_wf g) (h : fl_r2 g ρ) : fl_cc g ρ < 27 := by
  have w1 : g 1 ≤ g 0 := w.1.2.2.1
  have a := fl_cF_le h (g 0 - g 1) (g 1) (by omega)
  rw [fl_nr_0 w _ (Nat.le_refl _), show g 1 + (g 0 - g 1) = g 0 by omega, Nat.pow_zero, Nat.mul_one] at a
  have b := fl_p3 (fl_nr_3 w (Nat.le_refl _))
  have c : fl_cc g ρ = fl_cF g ρ (g 0 - g 1) (g 1) := rfl
  omega
theorem fl_cR_lt (h : fl_r2 g ρ) : ∀ k, k ≤ g 0 → fl_cR g ρ k + 1 ≤ 3 ^ fl_nr g k
  | 0, _ => Nat.le_refl _
  | k + 1, hk => by
    have ih := fl_cR_lt h k (by omega)
    have b := h k (by omega)
    by_cases e : g (4 + k) = 8
    · rw [fl_cR, if_pos e, fl_nr_y e, Nat.pow_succ]; omega
    · rw [fl_cR, if_neg e, fl_nr_n e]; exact ih
theorem fl_cr_lt (w : fl_wf g) (h : fl_r2 g ρ) : fl_cr g ρ < 27 := by
  have a := fl_cR_lt h (g 0) (Nat.le_refl _)
  have b := fl_p3 (fl_nr_3 w (Nat.le_refl _))
  have c : fl_cr g ρ = fl_cR g ρ (g 0) := rfl
  omega
theorem fl_cR_27 (w : fl_wf g) (h : fl_r2 g ρ) {k : Nat} (hk : k ≤ g 0) : fl_cR g ρ k < 27 := by
  have a := fl_cR_lt h k hk
  have b := fl_p3 (fl_nr_3 w hk)
  omega
theorem fl_cF_27 (w : fl_wf g) (h : fl_r2 g ρ) {n k : Nat} (hk : k + n ≤ g 0) : fl_cF g ρ n k < 27 := by
  have a := fl_cF_le h n k hk
  have b := fl_p3 (fl_nr_3 w hk)
  have c : 0 < 3 ^ fl_nr g k := Nat.pow_pos (by decide)
  have d := Nat.le_mul_of_pos_right (fl_cF g ρ n k + 1) c
  omega
/-- what follows, by what registers hold alone -/
def fl_vv (g : Nat → Nat) (f n : Nat) (ρ : Nat → Nat) : Nat → Nat := fl_lay g f (fl_pn (g 1) n) ρ (g 0)
def fl_nxt (g : Nat → Nat) (f n : Nat) (ρ : Nat → Nat) : Nat → Nat := fl_nh g f (fl_vv g f n ρ)
theorem fl_lay_sr {f pt : Nat} (s : fl_srg g ρ ρ') : ∀ k, k ≤ g 0 → fl_lay g f pt ρ k = fl_lay g f pt ρ' k
  | 0, _ => rfl
  | k + 1, hk => by
    rw [fl_lay, fl_lay, fl_lay_sr s k (by omega)]
    by_cases e : g (4 + k) = 8
    · rw [s k (by omega) e]
    · rw [if_neg e, if_neg e]
theorem fl_vv_sr {f n : Nat} (s : fl_srg g ρ ρ') : fl_vv g f n ρ = fl_vv g f n ρ' := fl_lay_sr s _ (Nat.le_refl _)
theorem fl_vv_le (w : fl_wf g) {f n : Nat} (h : fl_r2 g ρ) (k : Nat) : fl_vv g f n ρ k ≤ 2 := fl_lay_le (fl_pn_ok w.1.2.1).2 h (g 0) k (Nat.le_refl _)
theorem fl_nx_r2 (w : fl_wf g) {f n : Nat} (h : fl_r2 g ρ) : fl_r2 g (fl_nxt g f n ρ) := fun k _ => fl_nh_le (fl_vv_le w h) k
/-! pairs of states; who is reached by whom -/
abbrev fl_En := (Nat → Nat) × (Nat → Nat) × Nat × Nat × Nat
abbrev fl_Se := Nat × (Nat → fl_En) × (Nat → Bool)
def fl_cpc (g : Nat → Nat) (e : fl_En) : Nat := fl_cc g e.1 * 27 + fl_cc g e.2.1
def fl_rp (g : Nat → Nat) (e : fl_En) : Nat := 27 * fl_cr g e.1 + fl_cr g e.2.1
def fl_rch (g : Nat → Nat) (S : fl_Se) (e : fl_En) : fl_Se := if S.2.2 (fl_cpc g e) = true then S else (S.1 + 1, fl_up S.2.1 S.1 e, fl_up S.2.2 (fl_cpc g e) true)
def fl_sh (g : Nat → Nat) (f : Nat) (e : fl_En) (n : Nat) : Bool := fl_any (fl_sq g (fl_vv g 64 n e.1) (fl_vv g f n e.2.1)) (g 3)
def fl_nxe (g : Nat → Nat) (f i : Nat) (e : fl_En) (n : Nat) : fl_En := (fl_nxt g 64 n e.1, fl_nxt g f n e.2.1, e.2.2.1 + 1, i, n)
abbrev fl_en0 (g : Nat → Nat) : fl_En := (fun k => g (40 + k), fun k => g (40 + k), 0, 0, 0)
def fl_s0 (g : Nat → Nat) : fl_Se := (1, fun _ => fl_en0 g, fl_up (fun _ => false) (fl_cpc g (fl_en0 g)) true)
def fl_rwS (E : Nat → fl_En) : Nat → Nat → Nat → Nat
  | 0, _ => fun _ => 0
  | d + 1, k => fl_up (fl_rwS E d (E k).2.2.2.1) d (E k).2.2.2.2
def fl_ans (E : Nat → fl_En) (i n : Nat) : Nat × (Nat → Nat) := ((E i).2.2.1 + 1, fl_up (fl_rwS E (E i).2.2.1 i) (E i).2.2.1 n)
def fl_inn (g : Nat → Nat) (f i : Nat) : Nat → Nat → fl_Se → fl_Se ⊕ (Nat × (Nat → Nat))
  | 0, _, S => .inl S
  | r + 1, n, S => if fl_sh g f (S.2.1 i) n = true then .inr (fl_ans S.2.1 i n) else fl_inn g f i r (n + 1) (fl_rch g S (fl_nxe g f i (S.2.1 i) n))
def fl_out (g : Nat → Nat) (f : Nat) : Nat → Nat → fl_Se → Option (Nat × (Nat → Nat))
  | 0, _, _ => none
  | r + 1, i, S => if i < S.1 ∧ (S.2.1 i).2.2.1 < 6 then (match fl_inn g f i (2 ^ g 1) 0 S with | .inl S' => fl_out g f r (i + 1) S' | .inr x => some x) else none
def fl_few (g : Nat → Nat) (f : Nat) : Option (Nat × (Nat → Nat)) := fl_out g f 729 0 (fl_s0 g)
/-- what a search keeps to -/
abbrev fl_J0 (g : Nat → Nat) (S : fl_Se) : Prop :=
  S.1 = fl_cnt S.2.2 729 ∧ (∀ c, S.2.2 c = true ↔ ∃ k, k < S.1 ∧ fl_cpc g (S.2.1 k) = c) ∧ (∀ k, k < S.1 → fl_r2 g (S.2.1 k).1 ∧ fl_r2 g (S.2.1 k).2.1) ∧
  (0 < S.1 ∧ (S.2.1 0).2.2.1 = 0 ∧ ∀ k, 0 < k → k < S.1 → (S.2.1 k).2.2.2.1 < k ∧ (S.2.1 k).2.2.1 = (S.2.1 (S.2.1 k).2.2.2.1).2.2.1 + 1 ∧ (S.2.1 k).2.2.2.2 < 16) ∧
  (∀ j k, j ≤ k → k < S.1 → (S.2.1 j).2.2.1 ≤ (S.2.1 k).2.2.1) ∧ ∀ k, k < S.1 → (S.2.1 k).2.2.1 ≤ 6
abbrev fl_J1 (S : fl_Se) (i : Nat) : Prop := i < S.1 → ∀ k, k < S.1 → (S.2.1 k).2.2.1 ≤ (S.2.1 i).2.2.1 + 1
theorem fl_cp_lt (w : fl_wf g) {e : fl_En} (a : fl_r2 g e.1) (b : fl_r2 g e.2.1) : fl_cpc g e < 729 := by
  have := fl_cc_lt w a
  have := fl_cc_lt w b
  unfold fl_cpc
  omega
theorem fl_rp_lt (w : fl_wf g) {e : fl_En} (a : fl_r2 g e.1) (b : fl_r2 g e.2.1) : fl_rp g e < 729 := by
  have := fl_cr_lt w a
  have := fl_cr_lt w b
  unfold fl_rp
  omega
theorem fl_cp_rp (w : fl_wf g) {e e' : fl_En} (a : fl_r2 g e.1 ∧ fl_r2 g e.2.1) (b : fl_r2 g e'.1 ∧ fl_r2 g e'.2.1) : fl_cpc g e = fl_cpc g e' ↔ fl_rp g e = fl_rp g e' := by
  have c1 := fl_cc_lt w a.1
  have c2 := fl_cc_lt w a.2
  have c3 := fl_cc_lt w b.1
  have c4 := fl_cc_lt w b.2
  have r1 := fl_cr_lt w a.1
  have r2 := fl_cr_lt w a.2
  have r3 := fl_cr_lt w b.1
  have r4 := fl_cr_lt w b.2
  have e1 := (fl_cc_eq w a.1 b.1).trans (fl_cr_eq a.1 b.1).symm
  have e2 := (fl_cc_eq w a.2 b.2).trans (fl_cr_eq a.2 b.2).symm
  unfold fl_cpc fl_rp
  constructor
  · intro h
    have i1 := e1.mp (by omega)
    have i2 := e2.mp (by omega)
    omega
  · intro h
    have i1 := e1.mpr (by omega)
    have i2 := e2.mpr (by omega)
    omega
theorem fl_cnt_up {q : Nat → Bool} {c : Nat} (hq : q c = false) : ∀ {n : Nat}, c < n → fl_cnt (fl_up q c true) n = fl_cnt q n + 1
  | 0, h => by omega
  | n + 1, h => by
    by_cases e : c = n
    · subst e
      rw [fl_cnt, fl_cnt, fl_up_self, hq, fl_cnt_congr (q' := q) (fun i hi => fl_up_ne (by omega))]
      rfl
    · rw [fl_cnt, fl_cnt, fl_cnt_up hq (by omega), fl_up_ne (by omega)]
      omega
theorem fl_J0_0 (w : fl_wf g) : fl_J0 g (fl_s0 g) ∧ fl_J1 (fl_s0 g) 0 := by
  have r : fl_r2 g (fun k => g (40 + k)) := fun k hk => fl_st_le w hk
  have l : fl_cpc g (fl_en0 g) < 729 := fl_cp_lt w r r
  have z : ∀ n, fl_cnt (fun _ => false) n = 0 := fun n => by
    induction n with
    | zero => rfl
    | succ n ih => rw [fl_cnt, ih]; rfl
  have e1 : fl_cnt (fl_up (fun _ => false) (fl_cpc g (fl_en0 g)) true) 729 = 1 := by rw [fl_cnt_up rfl l, z]
  unfold fl_s0
  refine ⟨⟨e1.symm, fun c => ?_, fun k _ => ⟨r, r⟩, ⟨Nat.one_pos, rfl, fun k a b => absurd b (by simp only; omega)⟩, fun j k _ _ => Nat.le_refl _, fun k _ => Nat.zero_le _⟩, fun _ k _ => Nat.zero_le _⟩
  dsimp only
  by_cases e : c = fl_cpc g (fl_en0 g)
  · subst e
    exact ⟨fun _ => ⟨0, Nat.one_pos, rfl⟩, fun _ => fl_up_self⟩
  · constructor
    · intro h
      rw [fl_up_ne e] at h
      cases h
    · rintro ⟨k, -, q⟩
      exact absurd q.symm e
theorem fl_J0_rch (w : fl_wf g) {S : fl_Se} {f i n : Nat} (J : fl_J0 g S) (i1 : i < S.1) (L : fl_J1 S i) (d6 : (S.2.1 i).2.2.1 < 6) (hn : n < 16) : fl_J0 g (fl_rch g S (fl_nxe g f i (S.2.1 i) n)) ∧ fl_J1 (fl_rch g S (fl_nxe g f i (S.2.1 i) n)) i ∧ S.1 ≤ (fl_rch g S (fl_nxe g f i (S.2.1 i) n)).1 ∧ ∀ k, k < S.1 → (fl_rch g S (fl_nxe g f i (S.2.1 i) n)).2.1 k = S.2.1 k := by
  have r := J.2.2.1 i i1
  have r1 : fl_r2 g (fl_nxe g f i (S.2.1 i) n).1 := fl_nx_r2 w r.1
  have r2 : fl_r2 g (fl_nxe g f i (S.2.1 i) n).2.1 := fl_nx_r2 w r.2
  have dd : (fl_nxe g f i (S.2.1 i) n).2.2 = ((S.2.1 i).2.2.1 + 1, i, n) := rfl
  have l := fl_cp_lt w r1 r2
  unfold fl_rch
  generalize fl_nxe g f i (S.2.1 i) n = e at *
  by_cases z : S.2.2 (fl_cpc g e) = true
  · rw [if_pos z]
    exact ⟨J, L, Nat.le_refl _, fun k _ => rfl⟩
  · rw [if_neg z]
    have zf : S.2.2 (fl_cpc g e) = false := by
      cases q : S.2.2 (fl_cpc g e) with
      | false => rfl
      | true => exact absurd q z
    obtain ⟨N, E, Z⟩ := S
    simp only at *
    have en : fl_up E N e N = e := fl_up_self
    have eo : ∀ k, k < N → fl_up E N e k = E k := fun k hk => fl_up_ne (by omega)
    have L' := L i1
    have d1 : e.2.2.1 = (E i).2.2.1 + 1 := by rw [dd]
    have d2 : e.2.2.2.1 = i := by rw [dd]
    have d3 : e.2.2.2.2 = n := by rw [dd]
    refine ⟨⟨?_, fun c => ?_, fun k hk => ?_, ⟨Nat.succ_pos _, ?_, fun k k1 k2 => ?_⟩, fun j k jk hk => ?_, fun k hk => ?_⟩, fun _ k hk => ?_, Nat.le_succ _, fun k hk => eo k hk⟩
    all_goals dsimp only at *
    · rw [fl_cnt_up zf l, ← J.1]
    · by_cases q : c = fl_cpc g e
      · subst q
        exact ⟨fun _ => ⟨N, Nat.lt_succ_self _, by rw [en]⟩, fun _ => fl_up_self⟩
      · rw [fl_up_ne q, J.2.1 c]
        constructor
        · rintro ⟨k, hk, q2⟩
          exact ⟨k, by omega, by rw [eo k hk]; exact q2⟩
        · rintro ⟨k, hk, q2⟩
          by_cases kn : k = N
          · subst kn
            rw [en] at q2
            exact absurd q2.symm q
          · exact ⟨k, by omega, by rw [eo k (by omega)] at q2; exact q2⟩
    · by_cases kn : k = N
      · subst kn
        rw [en]; exact ⟨r1, r2⟩
      · rw [eo k (by omega)]
        exact J.2.2.1 k (by omega)
    · rw [eo 0 (by omega)]
      exact J.2.2.2.1.2.1
    · by_cases kn : k = N
      · subst kn
        rw [en, d1, d2, d3, eo i i1]
        exact ⟨i1, rfl, hn⟩
      · have a := J.2.2.2.1.2.2 k k1 (by omega)
        dsimp only at a
        have a1 := a.1
        rw [eo k (by omega), eo _ (by omega)]
        exact a
    · by_cases kn : k = N
      · subst kn
        by_cases jn : j = k
        · subst jn; exact Nat.le_refl _
        · rw [en, d1, eo j (by omega)]
          exact L' j (by omega)
      · rw [eo j (by omega), eo k (by omega)]
        exact J.2.2.2.2.1 j k jk (by omega)
    · by_cases kn : k = N
      · subst kn
        rw [en, d1]; omega
      · rw [eo k (by omega)]
        exact J.2.2.2.2.2 k (by omega)
    · rw [eo i i1]
      by_cases kn : k = N
      · subst kn
        rw [en, d1]; exact Nat.le_refl _
      · rw [eo k (by omega)]
        exact L' k (by omega)
theorem fl_J1_up {S : fl_Se} {i : Nat} (J : fl_J0 g S) (i1 : i < S.1) (L : fl_J1 S i) : fl_J1 S (i + 1) := fun i2 k hk => by
  have a := L i1 k hk
  have b := J.2.2.2.2.1 i (i + 1) (by omega) i2
  omega
theorem fl_J_729 {S : fl_Se} (J : fl_J0 g S) : S.1 ≤ 729 := by
  rw [J.1]
  exact fl_cnt_le 729
end
