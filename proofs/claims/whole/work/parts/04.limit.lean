/-! THE LIMIT of fl_ex over its fuel, and the equation that it keeps -/
/-- one says at least what the other says -/
def fl_le (a b : Option fl_O) : Prop := ∀ r, a = some r → b = some r
theorem fl_le_rfl {a : Option fl_O} : fl_le a a := fun _ h => h
theorem fl_swi_le {x : Int32} {k k' : Nat → Option fl_O} (d : Nat) (hk : ∀ t, fl_le (k t) (k' t)) : ∀ l : List (Int32 × Nat), fl_le (fl_swi x k d l) (fl_swi x k' d l)
  | [] => hk d
  | (v, t) :: l => by
    unfold fl_swi
    by_cases hv : x = v
    · rw [if_pos hv, if_pos hv]; exact hk t
    · rw [if_neg hv, if_neg hv]; exact fl_swi_le d hk l
theorem fl_aft_le {nx nx' : Nat → fl_L → List Value → fl_H → Option fl_O} (hn : ∀ pc L st h, fl_le (nx pc L st h) (nx' pc L st h)) (pc : Nat) (L : fl_L) (r : List Value) (sw : List (Int32 × Nat)) {o o' : Option fl_O} (ho : fl_le o o') : fl_le (fl_aft nx pc L r sw o) (fl_aft nx' pc L r sw o') := by
  cases o with
  | none => intro q hq; cases hq
  | some z =>
    rw [ho z rfl]
    obtain ⟨v, h⟩ := z
    cases v with
    | some v => exact hn _ _ _ _
    | none =>
      cases sw with
      | nil => exact fl_le_rfl
      | cons y l => exact hn _ _ _ _
theorem fl_phi_le {nx nx' : Nat → fl_L → List Value → fl_H → Option fl_O} {cl cl' : Nat → List Value → fl_H → Option fl_O} (hn : ∀ pc L st h, fl_le (nx pc L st h) (nx' pc L st h)) (hc : ∀ m as h, fl_le (cl m as h) (cl' m as h)) (s : Option (Bool × fl_A)) : fl_le (fl_phi nx cl s) (fl_phi nx' cl' s) := by
  cases s with
  | none => exact fl_le_rfl
  | some z =>
    obtain ⟨g, x⟩ := z
    unfold fl_phi
    cases g with
    | false => exact fl_le_rfl
    | true =>
      simp only [if_true]
      rcases x with ⟨pc, L, st, h⟩ | ⟨b, t, f, L, st, h⟩ | ⟨x, sw, d, L, st, h⟩ | ⟨m, as, pc, L, r, sw, h⟩ | o
      · exact hn _ _ _ _
      · cases b
        · exact hn _ _ _ _
        · exact hn _ _ _ _
      · exact fl_swi_le d (fun t => hn t L st h) sw
      · exact fl_aft_le hn _ _ _ _ (hc m as h)
      · exact fl_le_rfl
section FLLIM
variable (C : Nat → Nat → Option fl_E)
theorem fl_ex_le : ∀ (n m pc : Nat) (L : fl_L) (st : List Value) (h : fl_H), fl_le (fl_ex C n m pc L st h) (fl_ex C (n + 1) m pc L st h)
  | 0, _, _, _, _, _ => fun r h => by cases h
  | n + 1, m, pc, L, st, h => by
    rw [fl_ex, fl_ex]
    cases C m pc with
    | none => exact fl_le_rfl
    | some e => exact fl_phi_le (fun pc L st h => fl_ex_le n m pc _ st h) (fun m as h => fl_ex_le n m 0 _ [] h) _
theorem fl_ex_up {n n' : Nat} (hn : n ≤ n') (m pc : Nat) (L : fl_L) (st : List Value) (h : fl_H) : fl_le (fl_ex C n m pc L st h) (fl_ex C n' m pc L st h) := by
  induction hn with
  | refl => exact fl_le_rfl
  | step _ ih => exact fun r hr => fl_ex_le C _ m pc L st h r (ih r hr)
/-- the limit -/
noncomputable def fl_Rn (m pc : Nat) (L : fl_L) (st : List Value) (h : fl_H) : Option fl_O :=
  @dite _ (∃ r n, fl_ex C n m pc L st h = some r) (Classical.propDecidable _) (fun hx => some (Classical.choose hx)) (fun _ => none)
theorem fl_Rn_iff {m pc : Nat} {L : fl_L} {st : List Value} {h : fl_H} {r : fl_O} : fl_Rn C m pc L st h = some r ↔ ∃ n, fl_ex C n m pc L st h = some r := by
  unfold fl_Rn
  constructor
  · intro hr
    by_cases hx : ∃ r n, fl_ex C n m pc L st h = some r
    · rw [dif_pos hx] at hr
      cases hr
      exact Classical.choose_spec hx
    · rw [dif_neg hx] at hr
      cases hr
  · rintro ⟨n, hn⟩
    have hx : ∃ r n, fl_ex C n m pc L st h = some r := ⟨r, n, hn⟩
    rw [dif_pos hx]
    obtain ⟨n', hn'⟩ := Classical.choose_spec hx
    have h1 := fl_ex_up C (Nat.le_max_left n n') m pc L st h _ hn
    have h2 := fl_ex_up C (Nat.le_max_right n n') m pc L st h _ hn'
    exact h2.symm.trans h1
theorem fl_ex_Rn (n m pc : Nat) (L : fl_L) (st : List Value) (h : fl_H) : fl_le (fl_ex C n m pc L st h) (fl_Rn C m pc L st h) := fun _ hr => (fl_Rn_iff C).mpr ⟨n, hr⟩
/-- a call -/
noncomputable def fl_cl (m : Nat) (as : List Value) (h : fl_H) : Option fl_O := fl_Rn C m 0 (fl_lb C m 0 (fl_args as)) [] h
/-- the limit of a step -/
theorem fl_phi_lim (m : Nat) (s : Option (Bool × fl_A)) {r : fl_O} (hr : fl_phi (fun pc L st h => fl_Rn C m pc (fl_lb C m pc L) st h) (fl_cl C) s = some r) :
    ∃ n, fl_phi (fun pc L st h => fl_ex C n m pc (fl_lb C m pc L) st h) (fun m as h => fl_ex C n m 0 (fl_lb C m 0 (fl_args as)) [] h) s = some r := by
  have nxt : ∀ {pc L st h} {r : fl_O}, fl_Rn C m pc (fl_lb C m pc L) st h = some r → ∃ n, fl_ex C n m pc (fl_lb C m pc L) st h = some r := fun h => (fl_Rn_iff C).mp h
  cases s with
  | none => cases hr
  | some z =>
    obtain ⟨g, x⟩ := z
    unfold fl_phi at hr ⊢
    cases g with
    | false => cases hr
    | true =>
      simp only [if_true] at hr ⊢
      rcases x with ⟨pc, L, st, h⟩ | ⟨b, t, f, L, st, h⟩ | ⟨x, sw, d, L, st, h⟩ | ⟨m', as, pc, L, q, sw, h⟩ | o
      · exact nxt hr
      · cases b
        · exact nxt hr
        · exact nxt hr
      · have key : ∀ l : List (Int32 × Nat), fl_swi x (fun t => fl_Rn C m t (fl_lb C m t L) st h) d l = some r → ∃ n, fl_swi x (fun t => fl_ex C n m t (fl_lb C m t L) st h) d l = some r := by
          intro l
          induction l with
          | nil => exact fun hr => nxt hr
          | cons y l ih =>
            obtain ⟨v, t⟩ := y
            intro hr
            unfold fl_swi at hr ⊢
            by_cases hv : x = v
            · rw [if_pos hv] at hr
              obtain ⟨n, hn⟩ := nxt hr
              exact ⟨n, by rw [if_pos hv]; exact hn⟩
            · rw [if_neg hv] at hr
              obtain ⟨n, hn⟩ := ih hr
              exact ⟨n, by rw [if_neg hv]; exact hn⟩
        exact key sw hr
      · unfold fl_cl at hr
        dsimp only at hr ⊢
        cases ho : fl_Rn C m' 0 (fl_lb C m' 0 (fl_args as)) [] h with
        | none => rw [ho] at hr; cases hr
        | some o =>
          rw [ho] at hr
          obtain ⟨n1, h1⟩ := (fl_Rn_iff C).mp ho
          have : ∃ n2, fl_aft (fun pc L st h => fl_ex C n2 m pc (fl_lb C m pc L) st h) pc L q sw (some o) = some r := by
            obtain ⟨v, h'⟩ := o
            cases v with
            | some v => exact nxt hr
            | none =>
              cases sw with
              | nil => cases hr
              | cons y l => exact nxt hr
          obtain ⟨n2, h2⟩ := this
          refine ⟨max n1 n2, ?_⟩
          have e1 := fl_ex_up C (Nat.le_max_left n1 n2) m' 0 (fl_lb C m' 0 (fl_args as)) [] h _ h1
          rw [e1]
          exact fl_aft_le (fun pc L st h => fl_ex_up C (Nat.le_max_right n1 n2) m pc _ st h) pc L q sw fl_le_rfl r h2
      · exact ⟨0, hr⟩
/-- THE EQUATION -/
theorem fl_Rn_eq (m pc : Nat) (L : fl_L) (st : List Value) (h : fl_H) : fl_Rn C m pc L st h = match C m pc with
    | none => none
    | some e => fl_phi (fun pc L st h => fl_Rn C m pc (fl_lb C m pc L) st h) (fl_cl C) (fl_step e pc L st h) := by
  cases hC : C m pc with
  | none =>
    cases ho : fl_Rn C m pc L st h with
    | none => rfl
    | some r =>
      obtain ⟨n, hn⟩ := (fl_Rn_iff C).mp ho
      cases n with
      | zero => cases hn
      | succ n => rw [fl_ex, hC] at hn; cases hn
  | some e =>
    dsimp only
    cases ho : fl_phi (fun pc L st h => fl_Rn C m pc (fl_lb C m pc L) st h) (fl_cl C) (fl_step e pc L st h) with
    | none =>
      cases hr : fl_Rn C m pc L st h with
      | none => rfl
      | some r =>
        obtain ⟨n, hn⟩ := (fl_Rn_iff C).mp hr
        cases n with
        | zero => cases hn
        | succ n =>
          rw [fl_ex, hC] at hn
          have := fl_phi_le (fun pc L st h => fl_ex_Rn C n m pc (fl_lb C m pc L) st h) (fun m as h => fl_ex_Rn C n m 0 (fl_lb C m 0 (fl_args as)) [] h) _ r hn
          exact absurd (ho.symm.trans this) (fun h => by cases h)
    | some r =>
      obtain ⟨n, hn⟩ := fl_phi_lim C m _ ho
      exact (fl_Rn_iff C).mpr ⟨n + 1, by rw [fl_ex, hC]; exact hn⟩
def fl_inv : Instr → Bool
  | .invokestatic _ => true
  | .invokevirtual _ => true
  | .invokespecial _ => true
  | _ => false
/-- fl_phi, with a word of its own for what comes behind a call -/
def fl_ph2 (nx nr : Nat → fl_L → List Value → fl_H → Option fl_O) (cl : Nat → List Value → fl_H → Option fl_O) (s : Option (Bool × fl_A)) : Option fl_O := match s with
  | none => none
  | some (g, x) => if g = true then (match x with
    | .inl (pc, L, st, h) => nx pc L st h
    | .inr (.inl (b, t, f, L, st, h)) => if b = true then nx t L st h else nx f L st h
    | .inr (.inr (.inl (x, sw, d, L, st, h))) => fl_swi x (fun t => nx t L st h) d sw
    | .inr (.inr (.inr (.inl (m, as, pc, L, r, sw, h)))) => fl_aft nr pc L r sw (cl m as h)
    | .inr (.inr (.inr (.inr o))) => some o) else none
/-- behind a call of m -/
noncomputable def fl_ca (m pc : Nat) (L : fl_L) (r : List Value) (sw : List (Int32 × Nat)) (o : Option fl_O) : Option fl_O := fl_aft (fun pc L st h => fl_Rn C m pc (fl_lb C m pc L) st h) pc L r sw o
/-- the tree of k steps, down to the calls and to the places where a list of what lives stands -/
noncomputable def fl_run : Nat → Nat → Nat → fl_L → List Value → fl_H → Option fl_O
  | 0, m, pc, L, st, h => fl_Rn C m pc L st h
  | k + 1, m, pc, L, st, h => match C m pc with
    | none => none
    | some e => fl_ph2 (fun pc L st h => match C m pc with
      | some (ins, _, _, _, _, _, _, _, _, _, some bs) => match fl_inv ins with
        | true => fl_run k m pc (fl_mask bs L) st h
        | false => fl_Rn C m pc (fl_mask bs L) st h
      | _ => fl_run k m pc L st h) (fun pc L st h => fl_Rn C m pc (fl_lb C m pc L) st h) (fl_cl C) (fl_step e pc L st h)
theorem fl_run_eq : ∀ (k m pc : Nat) (L : fl_L) (st : List Value) (h : fl_H), fl_Rn C m pc L st h = fl_run C k m pc L st h
  | 0, _, _, _, _, _ => rfl
  | k + 1, m, pc, L, st, h => by
    rw [fl_Rn_eq, fl_run]
    cases C m pc with
    | none => rfl
    | some e =>
      dsimp only
      show fl_ph2 _ _ _ _ = _
      congr 1
      funext pc L st h
      unfold fl_lb
      rcases C m pc with _ | ⟨ins, _, _, _, _, _, _, _, _, _, _ | bs⟩
      · exact fl_run_eq k m pc L st h
      · exact fl_run_eq k m pc L st h
      · dsimp only
        cases fl_inv ins
        · rfl
        · exact fl_run_eq k m pc _ st h
end FLLIM
