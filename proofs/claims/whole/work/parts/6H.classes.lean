/-! classes: what is alike by pairs -/
def fl_eqv (L : List (Nat × Nat)) (a b : Nat) : Prop := ∀ r : Nat → Nat → Prop, (∀ x, r x x) → (∀ x y, r x y → r y x) → (∀ x y z, r x y → r y z → r x z) → (∀ x y, (x, y) ∈ L → r x y) → r a b
theorem fl_eqv_rfl {L : List (Nat × Nat)} (a : Nat) : fl_eqv L a a := fun _ h1 _ _ _ => h1 a
theorem fl_eqv_sy {L : List (Nat × Nat)} {a b : Nat} (h : fl_eqv L a b) : fl_eqv L b a := fun r h1 h2 h3 h4 => h2 _ _ (h r h1 h2 h3 h4)
theorem fl_eqv_tr {L : List (Nat × Nat)} {a b c : Nat} (h : fl_eqv L a b) (h' : fl_eqv L b c) : fl_eqv L a c := fun r h1 h2 h3 h4 => h3 _ _ _ (h r h1 h2 h3 h4) (h' r h1 h2 h3 h4)
theorem fl_eqv_in {L : List (Nat × Nat)} {a b : Nat} (h : (a, b) ∈ L) : fl_eqv L a b := fun _ _ _ _ h4 => h4 a b h
theorem fl_eqv_le {L M : List (Nat × Nat)} (s : ∀ x y, (x, y) ∈ L → fl_eqv M x y) {a b : Nat} (h : fl_eqv L a b) : fl_eqv M a b := h (fl_eqv M) fl_eqv_rfl (fun _ _ => fl_eqv_sy) (fun _ _ _ => fl_eqv_tr) s
theorem fl_eqv_nil {a b : Nat} : fl_eqv [] a b ↔ a = b := ⟨fun h => h (fun x y => x = y) (fun _ => rfl) (fun _ _ e => e.symm) (fun _ _ _ e f => e.trans f) (fun x y z => absurd z (List.not_mem_nil)), fun e => by rw [e]; exact fl_eqv_rfl b⟩
theorem fl_eqv_mo {L M : List (Nat × Nat)} {a b : Nat} (h : fl_eqv L a b) : fl_eqv (L ++ M) a b := fl_eqv_le (fun _ _ z => fl_eqv_in (List.mem_append_left M z)) h
/-- a pair more -/
theorem fl_eqv_1 {L : List (Nat × Nat)} {a b x y : Nat} : fl_eqv (L ++ [(a, b)]) x y ↔ fl_eqv L x y ∨ (fl_eqv L x a ∧ fl_eqv L y b) ∨ (fl_eqv L x b ∧ fl_eqv L y a) := by
  constructor
  · intro h
    refine h (fun x y => fl_eqv L x y ∨ (fl_eqv L x a ∧ fl_eqv L y b) ∨ (fl_eqv L x b ∧ fl_eqv L y a)) ?_ ?_ ?_ ?_
    · intro x; exact Or.inl (fl_eqv_rfl x)
    · rintro x y (h | ⟨h1, h2⟩ | ⟨h1, h2⟩)
      · exact Or.inl (fl_eqv_sy h)
      · exact Or.inr (Or.inr ⟨h2, h1⟩)
      · exact Or.inr (Or.inl ⟨h2, h1⟩)
    · rintro x y z (h | ⟨h1, h2⟩ | ⟨h1, h2⟩) (k | ⟨k1, k2⟩ | ⟨k1, k2⟩)
      · exact Or.inl (fl_eqv_tr h k)
      · exact Or.inr (Or.inl ⟨fl_eqv_tr h k1, k2⟩)
      · exact Or.inr (Or.inr ⟨fl_eqv_tr h k1, k2⟩)
      · exact Or.inr (Or.inl ⟨h1, fl_eqv_tr (fl_eqv_sy k) h2⟩)
      · exact Or.inr (Or.inl ⟨h1, k2⟩)
      · exact Or.inl (fl_eqv_tr h1 (fl_eqv_sy k2))
      · exact Or.inr (Or.inr ⟨h1, fl_eqv_tr (fl_eqv_sy k) h2⟩)
      · exact Or.inl (fl_eqv_tr h1 (fl_eqv_sy k2))
      · exact Or.inr (Or.inr ⟨h1, k2⟩)
    · intro x y z
      rw [List.mem_append] at z
      rcases z with z | z
      · exact Or.inl (fl_eqv_in z)
      · have e := List.mem_singleton.mp z
        have e1 : x = a := congrArg Prod.fst e
        have e2 : y = b := congrArg Prod.snd e
        rw [e1, e2]
        exact Or.inr (Or.inl ⟨fl_eqv_rfl a, fl_eqv_rfl b⟩)
  · have ab : fl_eqv (L ++ [(a, b)]) a b := fl_eqv_in (List.mem_append_right L (List.mem_singleton.mpr rfl))
    rintro (h | ⟨h1, h2⟩ | ⟨h1, h2⟩)
    · exact fl_eqv_mo h
    · exact fl_eqv_tr (fl_eqv_mo h1) (fl_eqv_tr ab (fl_eqv_sy (fl_eqv_mo h2)))
    · exact fl_eqv_tr (fl_eqv_mo h1) (fl_eqv_tr (fl_eqv_sy ab) (fl_eqv_sy (fl_eqv_mo h2)))
/-- the pairs of a pin: with its gate, with the line that it reads alone -/
def fl_jg (g : Nat → Nat) (k p : Nat) : List (Nat × Nat) :=
  if g (4 + k) = 1 then [(2 * (g 0 + p), 2 * k + 1), (2 * (g 0 + p) + 1, 2 * k)] else
  if g (4 + k) = 2 then [(2 * (g 0 + p), 2 * k), (2 * (g 0 + p) + 1, 2 * k + 1)] else
  if g (4 + k) = 3 then [(2 * (g 0 + p), 2 * k)] else if g (4 + k) = 6 then [(2 * (g 0 + p), 2 * k + 1)] else
  if g (4 + k) = 4 then [(2 * (g 0 + p) + 1, 2 * k + 1)] else if g (4 + k) = 7 then [(2 * (g 0 + p) + 1, 2 * k)] else []
def fl_jok (g : Nat → Nat) (r : Nat) : Prop := fl_cnt (fun p => decide (g (52 + p) = r)) (g 2) = 1 ∧ fl_any (fun j => decide (g (72 + j) = r)) (g 3) = false
def fl_jr (g : Nat → Nat) (p : Nat) : List (Nat × Nat) := if fl_cnt (fun q => decide (g (52 + q) = g (52 + p))) (g 2) = 1 ∧ fl_any (fun j => decide (g (72 + j) = g (52 + p))) (g 3) = false then [(2 * g (52 + p), 2 * (g 0 + p)), (2 * g (52 + p) + 1, 2 * (g 0 + p) + 1)] else []
def fl_jlk (g : Nat → Nat) (J : Nat → Nat → List (Nat × Nat)) (k : Nat) : Nat → List (Nat × Nat)
  | 0 => []
  | i + 1 => fl_jlk g J k i ++ J k (g (16 + k) + i)
def fl_jla (g : Nat → Nat) (J : Nat → Nat → List (Nat × Nat)) : Nat → List (Nat × Nat)
  | 0 => []
  | k + 1 => fl_jla g J k ++ fl_jlk g J k (g (28 + k))
def fl_jlr (g : Nat → Nat) : Nat → List (Nat × Nat)
  | 0 => []
  | p + 1 => fl_jlr g p ++ fl_jr g p
def fl_JC (g : Nat → Nat) : List (Nat × Nat) := fl_jla g (fl_jg g) (g 0) ++ fl_jlr g (g 2)
def fl_JR (g : Nat → Nat) : List (Nat × Nat) := fl_jla g (fun k p => fl_jg g k p ++ fl_jr g p) (g 0)
theorem fl_jlk_m {g : Nat → Nat} {J : Nat → Nat → List (Nat × Nat)} {k : Nat} {z : Nat × Nat} : ∀ {n : Nat}, z ∈ fl_jlk g J k n ↔ ∃ i, i < n ∧ z ∈ J k (g (16 + k) + i)
  | 0 => ⟨fun h => absurd h List.not_mem_nil, fun ⟨_, h, _⟩ => absurd h (Nat.not_lt_zero _)⟩
  | n + 1 => by
    rw [fl_jlk, List.mem_append, fl_jlk_m]
    constructor
    · rintro (⟨i, hi, h⟩ | h)
      · exact ⟨i, by omega, h⟩
      · exact ⟨n, by omega, h⟩
    · rintro ⟨i, hi, h⟩
      by_cases c : i = n
      · subst c; exact Or.inr h
      · exact Or.inl ⟨i, by omega, h⟩
theorem fl_jla_m {g : Nat → Nat} {J : Nat → Nat → List (Nat × Nat)} {z : Nat × Nat} : ∀ {n : Nat}, z ∈ fl_jla g J n ↔ ∃ k i, k < n ∧ i < g (28 + k) ∧ z ∈ J k (g (16 + k) + i)
  | 0 => ⟨fun h => absurd h List.not_mem_nil, fun ⟨_, _, h, _⟩ => absurd h (Nat.not_lt_zero _)⟩
  | n + 1 => by
    rw [fl_jla, List.mem_append, fl_jla_m, fl_jlk_m]
    constructor
    · rintro (⟨k, i, hk, hi, h⟩ | ⟨i, hi, h⟩)
      · exact ⟨k, i, by omega, hi, h⟩
      · exact ⟨n, i, by omega, hi, h⟩
    · rintro ⟨k, i, hk, hi, h⟩
      by_cases c : k = n
      · subst c; exact Or.inr ⟨i, hi, h⟩
      · exact Or.inl ⟨k, i, by omega, hi, h⟩
theorem fl_jlr_m {g : Nat → Nat} {z : Nat × Nat} : ∀ {n : Nat}, z ∈ fl_jlr g n ↔ ∃ p, p < n ∧ z ∈ fl_jr g p
  | 0 => ⟨fun h => absurd h List.not_mem_nil, fun ⟨_, h, _⟩ => absurd h (Nat.not_lt_zero _)⟩
  | n + 1 => by
    rw [fl_jlr, List.mem_append, fl_jlr_m]
    constructor
    · rintro (⟨i, hi, h⟩ | h)
      · exact ⟨i, by omega, h⟩
      · exact ⟨n, by omega, h⟩
    · rintro ⟨i, hi, h⟩
      by_cases c : i = n
      · subst c; exact Or.inr h
      · exact Or.inl ⟨i, by omega, h⟩
/-- each pin is some line's -/
theorem fl_tile {g : Nat → Nat} (w : fl_wf g) {p : Nat} (hp : p < g 2) : ∃ k i, k < g 0 ∧ i < g (28 + k) ∧ p = g (16 + k) + i := by
  have w1 := w.1
  by_cases e : g 1 = g 0
  · have := w.2.2.2.2.2.2.2.2.2.2.2.2.1 e
    omega
  · have lt : g 1 < g 0 := by omega
    have f0 := w.2.2.2.2.2.2.2.2.2.1 lt
    have fs := w.2.2.2.2.2.2.2.2.2.2.1
    have fe := w.2.2.2.2.2.2.2.2.2.2.2.1 lt
    have key : ∀ d, g 1 + d < g 0 → p < g (16 + (g 1 + d)) + g (28 + (g 1 + d)) → ∃ k i, k < g 0 ∧ i < g (28 + k) ∧ p = g (16 + k) + i := by
      intro d
      induction d with
      | zero =>
        intro h1 h2
        rw [Nat.add_zero] at h2
        exact ⟨g 1, p, lt, by omega, by omega⟩
      | succ d ih =>
        intro h1 h2
        by_cases c : p < g (16 + (g 1 + d)) + g (28 + (g 1 + d))
        · exact ih (by omega) c
        · have st := fs (g 1 + d) (by omega) (by omega)
          have e2 : g 1 + d.succ = g 1 + d + 1 := rfl
          rw [e2] at h1 h2
          rw [st] at h2
          exact ⟨g 1 + d + 1, p - (g (16 + (g 1 + d)) + g (28 + (g 1 + d))), h1, by omega, by rw [st]; omega⟩
    refine key (g 0 - 1 - g 1) (by omega) ?_
    rw [show g 1 + (g 0 - 1 - g 1) = g 0 - 1 by omega, fe]
    exact hp
theorem fl_wdt {g : Nat → Nat} (w : fl_wf g) {k i : Nat} (hk : k < g 0) (hi : i < g (28 + k)) : g 1 ≤ k ∧ g (16 + k) + i < g 2 := by
  by_cases l : k < g 1
  · have := (w.2.1 k l).2.2.1; omega
  · have := w.2.2.1 k (by omega) hk
    exact ⟨by omega, by omega⟩
theorem fl_JCR {g : Nat → Nat} (w : fl_wf g) {a b : Nat} : fl_eqv (fl_JC g) a b ↔ fl_eqv (fl_JR g) a b := by
  have m : ∀ z, z ∈ fl_JC g ↔ z ∈ fl_JR g := by
    intro z
    unfold fl_JC fl_JR
    rw [List.mem_append, fl_jla_m, fl_jla_m, fl_jlr_m]
    constructor
    · rintro (⟨k, i, hk, hi, h⟩ | ⟨p, hp, h⟩)
      · exact ⟨k, i, hk, hi, List.mem_append_left _ h⟩
      · obtain ⟨k, i, hk, hi, rfl⟩ := fl_tile w hp
        exact ⟨k, i, hk, hi, List.mem_append_right _ h⟩
    · rintro ⟨k, i, hk, hi, h⟩
      rcases List.mem_append.mp h with h | h
      · exact Or.inl ⟨k, i, hk, hi, h⟩
      · exact Or.inr ⟨_, (fl_wdt w hk hi).2, h⟩
  exact ⟨fl_eqv_le (fun x y z => fl_eqv_in ((m _).mp z)), fl_eqv_le (fun x y z => fl_eqv_in ((m _).mpr z))⟩
theorem fl_jg_lt {g : Nat → Nat} {k p x y : Nat} (hk : k < g 0) (hp : p < g 2) (h : (x, y) ∈ fl_jg g k p) : x < 2 * (g 0 + g 2) ∧ y < 2 * (g 0 + g 2) := by
  have key : ∀ l : List (Nat × Nat), (∀ z, z ∈ l → z.1 < 2 * (g 0 + g 2) ∧ z.2 < 2 * (g 0 + g 2)) → (x, y) ∈ l → x < 2 * (g 0 + g 2) ∧ y < 2 * (g 0 + g 2) := fun l hl hz => hl _ hz
  unfold fl_jg at h
  refine key _ ?_ h
  intro z hz
  repeat' split at hz
  all_goals simp only [List.mem_cons, List.not_mem_nil, or_false] at hz
  · rcases hz with rfl | rfl <;> exact ⟨by show _ < _; omega, by show _ < _; omega⟩
  · rcases hz with rfl | rfl <;> exact ⟨by show _ < _; omega, by show _ < _; omega⟩
  · subst hz; exact ⟨by show _ < _; omega, by show _ < _; omega⟩
  · subst hz; exact ⟨by show _ < _; omega, by show _ < _; omega⟩
  · subst hz; exact ⟨by show _ < _; omega, by show _ < _; omega⟩
  · subst hz; exact ⟨by show _ < _; omega, by show _ < _; omega⟩
theorem fl_jr_lt {g : Nat → Nat} {p x y : Nat} (w : fl_wf g) (hp : p < g 2) (h : (x, y) ∈ fl_jr g p) : x < 2 * (g 0 + g 2) ∧ y < 2 * (g 0 + g 2) := by
  have lr : g (52 + p) < g 0 := w.2.2.2.2.1 p hp
  have key : ∀ l : List (Nat × Nat), (∀ z, z ∈ l → z.1 < 2 * (g 0 + g 2) ∧ z.2 < 2 * (g 0 + g 2)) → (x, y) ∈ l → x < 2 * (g 0 + g 2) ∧ y < 2 * (g 0 + g 2) := fun l hl hz => hl _ hz
  unfold fl_jr at h
  refine key _ ?_ h
  intro z hz
  split at hz
  all_goals simp only [List.mem_cons, List.not_mem_nil, or_false] at hz
  rcases hz with rfl | rfl <;> exact ⟨by show _ < _; omega, by show _ < _; omega⟩
/-- what is alike to a fault is a fault -/
theorem fl_JC_lt {g : Nat → Nat} (w : fl_wf g) {a b : Nat} (h : fl_eqv (fl_JC g) a b) (ha : a < 2 * (g 0 + g 2)) : b < 2 * (g 0 + g 2) := by
  have := h (fun x y => x < 2 * (g 0 + g 2) ↔ y < 2 * (g 0 + g 2)) (fun _ => Iff.rfl) (fun _ _ e => e.symm) (fun _ _ _ e f => e.trans f) (fun x y z => by
    unfold fl_JC at z
    rcases List.mem_append.mp z with z | z
    · obtain ⟨k, i, hk, hi, hz⟩ := fl_jla_m.mp z
      have := fl_jg_lt hk (fl_wdt w hk hi).2 hz
      exact ⟨fun _ => this.2, fun _ => this.1⟩
    · obtain ⟨p, hp, hz⟩ := fl_jlr_m.mp z
      have := fl_jr_lt w hp hz
      exact ⟨fun _ => this.2, fun _ => this.1⟩)
  exact this.mp ha
/-- the class's cells of classes -/
def fl_cqs (A : Nat → Int64) (L : List (Nat × Nat)) : Prop := ∀ f c, f < 64 → c < 64 → (fl_hb (A f) c = true ↔ fl_eqv L f c)
theorem fl_cqs_j {A : Nat → Int64} {L : List (Nat × Nat)} (q : fl_cqs A L) {a b : Nat} (ha : a < 64) (hb : b < 64) : fl_cqs (fl_qq (fl_hb (A a ||| A b)) (fun _ => A a ||| A b) A 64) (L ++ [(a, b)]) := by
  intro f c hf hc
  have qa := fun x (hx : x < 64) => q a x ha hx
  have qb := fun x (hx : x < 64) => q b x hb hx
  rw [fl_eqv_1]
  unfold fl_qq
  by_cases z : fl_hb (A a ||| A b) f = true
  · rw [if_pos ⟨hf, z⟩, fl_hb_or, Bool.or_eq_true, qa c hc, qb c hc]
    rw [fl_hb_or, Bool.or_eq_true, qa f hf, qb f hf] at z
    constructor
    · rintro (h | h)
      · rcases z with z | z
        · exact Or.inl (fl_eqv_tr (fl_eqv_sy z) h)
        · exact Or.inr (Or.inr ⟨fl_eqv_sy z, fl_eqv_sy h⟩)
      · rcases z with z | z
        · exact Or.inr (Or.inl ⟨fl_eqv_sy z, fl_eqv_sy h⟩)
        · exact Or.inl (fl_eqv_tr (fl_eqv_sy z) h)
    · rintro (h | ⟨-, h2⟩ | ⟨-, h2⟩)
      · rcases z with z | z
        · exact Or.inl (fl_eqv_tr z h)
        · exact Or.inr (fl_eqv_tr z h)
      · exact Or.inr (fl_eqv_sy h2)
      · exact Or.inl (fl_eqv_sy h2)
  · rw [if_neg (fun y => z y.2), q f c hf hc]
    rw [fl_hb_or, Bool.or_eq_true, qa f hf, qb f hf] at z
    constructor
    · exact Or.inl
    · rintro (h | ⟨h1, -⟩ | ⟨h1, -⟩)
      · exact h
      · exact absurd (Or.inl (fl_eqv_sy h1)) z
      · exact absurd (Or.inr (fl_eqv_sy h1)) z
theorem fl_cqs_cg {A : Nat → Int64} {L M : List (Nat × Nat)} (q : fl_cqs A L) (e : L = M) : fl_cqs A M := by rw [← e]; exact q
section
variable {k0 : Nat → Nat × Nat} {h : fl_H} {g : Nat → Nat}
theorem fl_kin : fl_isC k0 212 213 64 ∧ fl_KK k0 211 = (1, 2) ∧ fl_RR 211 0 = some 212 := ⟨⟨rfl, rfl, rfl, by omega⟩, rfl, rfl⟩
theorem fc_194 (hg : fl_g k0 h) {a b : Nat} (ha : a < 64) (hb : b < 64) : fl_cl fl_C 194 [.ref 211, .int (Int32.ofNat a), .int (Int32.ofNat b)] h = some (some none, fl_wl h 213 (fl_qq (fl_hb (fl_l h 213 a ||| fl_l h 213 b)) (fun _ => fl_l h 213 a ||| fl_l h 213 b) (fl_l h 213) 64)) := by
  have K := fl_kin (k0 := k0)
  have o212 : fl_KK k0 212 = (1, 1) := K.1.1
  have ea := fc_at K.1 hg ha
  have eb := fc_at K.1 hg hb
  have st : fl_cl fl_C 194 [.ref 211, .int (Int32.ofNat a), .int (Int32.ofNat b)] h = fl_Rn fl_C 194 21 [some (.ref 211), none, none, some (.long (fl_l h 213 a ||| fl_l h 213 b)), none, some (.int (Int32.ofNat 0))] [] (fl_wl h 213 (fl_qq (fl_hb (fl_l h 213 a ||| fl_l h 213 b)) (fun _ => fl_l h 213 a ||| fl_l h 213 b) (fl_l h 213) 0)) := by
    rw [fl_qq_0, fl_wl_self rfl, fbE_194]
    simp (disch := omega) only [hg.1, hg.2, K.2, o212, fl_lit, fl_nadd, fl_nmul, fl_ndiv, fl_nsub, fl_msub, fl_nle, fl_nlt, fl_neq, fl_nclamp, fl_nin, fl_ltT, fl_ltF, fl_leT, fl_leF, fl_eqT, fl_eqF, decide_true, decide_false, Bool.true_and, Bool.and_true, Bool.false_and, Bool.and_false, if_true, if_false, Bool.false_eq_true, Option.isSome_some, Option.getD_some, not_true_eq_false, not_false_eq_true, Option.toList_some, Option.toList_none, List.cons_append, List.nil_append, ea, fbP_194_8, eb, fbP_194_16]
  rw [st]
  generalize fl_l h 213 a ||| fl_l h 213 b = B
  have lp := fl_iter (fun k => fl_Rn fl_C 194 21 [some (.ref 211), none, none, some (.long B), none, some (.int (Int32.ofNat k))] [] (fl_wl h 213 (fl_qq (fl_hb B) (fun _ => B) (fl_l h 213) k))) 64 (fun k hk => by
    have gx : fl_g k0 (fl_wl h 213 (fl_qq (fl_hb B) (fun _ => B) (fl_l h 213) k)) := ⟨by rw [fl_k_wl]; exact hg.1, by rw [fl_r_wl]; exact hg.2⟩
    have e120 := fc_120 (h := fl_wl h 213 (fl_qq (fl_hb B) (fun _ => B) (fl_l h 213) k)) B hk
    have pt := fc_put K.1 gx hk B
    rw [fl_l_wl, if_pos rfl, fl_wl_wl] at pt
    try dsimp only
    cases z : fl_hb B k with
    | true =>
      have y := fl_qq_yes (q := fl_hb B) (A := fun _ => B) (old := fl_l h 213) z
      rw [z, if_pos rfl] at e120
      rw [y] at pt
      rw [fbC_194_21]
      simp (disch := omega) only [fl_k_wl, fl_r_wl, hg.1, hg.2, K.2, o212, fl_lit, fl_nadd, fl_nmul, fl_ndiv, fl_nsub, fl_msub, fl_nle, fl_nlt, fl_neq, fl_nclamp, fl_nin, fl_ltT, fl_ltF, fl_leT, fl_leF, fl_eqT, fl_eqF, decide_true, decide_false, Bool.true_and, Bool.and_true, Bool.false_and, Bool.and_false, if_true, if_false, Bool.false_eq_true, Option.isSome_some, Option.getD_some, not_true_eq_false, not_false_eq_true, Option.toList_some, Option.toList_none, List.cons_append, List.nil_append, e120, fbP_194_34, pt, fbP_194_47, fbC_194_47]
    | false =>
      have y := fl_qq_no (q := fl_hb B) (A := fun _ => B) (old := fl_l h 213) z
      rw [z, if_neg (by decide)] at e120
      rw [← y, fbC_194_21]
      simp (disch := omega) only [fl_lit, fl_nadd, fl_nmul, fl_ndiv, fl_nsub, fl_msub, fl_nle, fl_nlt, fl_neq, fl_nclamp, fl_nin, fl_ltT, fl_ltF, fl_leT, fl_leF, fl_eqT, fl_eqF, decide_true, decide_false, Bool.true_and, Bool.and_true, Bool.false_and, Bool.and_false, if_true, if_false, Bool.false_eq_true, Option.isSome_some, Option.getD_some, not_true_eq_false, not_false_eq_true, Option.toList_some, Option.toList_none, List.cons_append, List.nil_append, e120, fbP_194_34, fbC_194_47])
  refine lp.trans ?_
  try dsimp only
  rw [fbC_194_21]
  simp (disch := omega) only [fl_lit, fl_nadd, fl_nmul, fl_ndiv, fl_nsub, fl_msub, fl_nle, fl_nlt, fl_neq, fl_nclamp, fl_nin, fl_ltT, fl_ltF, fl_leT, fl_leF, fl_eqT, fl_eqF, decide_true, decide_false, Bool.true_and, Bool.and_true, Bool.false_and, Bool.and_false, if_true, if_false, Bool.false_eq_true, Option.isSome_some, Option.getD_some, not_true_eq_false, not_false_eq_true, Option.toList_some, Option.toList_none, List.cons_append, List.nil_append]
/-- only the cells of classes change -/
abbrev fl_SK (q _j : Nat) : Prop := q = 213
theorem fc_jn (hg : fl_g k0 h) {L : List (Nat × Nat)} (q : fl_cqs (fl_l h 213) L) {a b : Nat} (ha : a < 64) (hb : b < 64) : ∃ y, fl_cl fl_C 194 [.ref 211, .int (Int32.ofNat a), .int (Int32.ofNat b)] h = some (some none, y) ∧ fl_df fl_SK h y ∧ fl_cqs (fl_l y 213) (L ++ [(a, b)]) := by
  refine ⟨_, fc_194 hg ha hb, fl_df_wl fl_df_rfl (fun j z => absurd rfl z), ?_⟩
  rw [fl_l_wl, if_pos rfl]
  exact fl_cqs_j q ha hb
end
