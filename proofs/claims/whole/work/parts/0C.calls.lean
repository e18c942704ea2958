/-! CALLS of the abstract machine: what a called method keeps -/
def fl_rm (mid mc ms : Nat) : Room := { frames := mid, cells := mc, slots := ms, locals := 64 * mid }
def fl_Pc (D : va_G) (G : ClassId × ClassId × ClassId) (w : fl_V) (Ls : Nat) (xs : Nat → Int32) (as : List Value) (h : fl_H) : Array Value → State → Prop := fun a U => a = (as.map (fl_cv w)).toArray ∧ fl_R D G w Ls xs h U.heap ∧ fl_EX D G w Ls xs U U.heap ∧ (h.1.2.2.2 = true → U.heap.size = w.1 + h.1.2.1)
def fl_Qc (D : va_G) (G : ClassId × ClassId × ClassId) (w : fl_V) (Ls : Nat) (xs : Nat → Int32) (r : fl_O) : Array Value → State → Outcome → State → Prop := fun _ st oc t => (∃ v, r.1 = some v ∧ oc = .returned (v.map (fl_cv w))) ∧ fl_R D G w Ls xs r.2 t.heap ∧ va_F (fl_Af w) st t
def fl_XC (D : va_G) (G : ClassId × ClassId × ClassId) (w : fl_V) (Ls : Nat) (xs : Nat → Int32) (r : fl_O) : String → State → State → Prop := fun E st t => E = fl_nsee ∧ fl_R D G w Ls xs r.2 t.heap ∧ va_F (fl_Af w) st t
def fl_Ct (l : Launch) (D : va_G) (G : ClassId × ClassId × ClassId) (w : fl_V) (Ls : Nat) (xs : Nat → Int32) (a : Nat) (as : List Value) (h : fl_H) (r : fl_O) : Prop :=
  h.1.2.1 ≤ r.2.1.2.1 ∧ h.1.2.2.1 ≤ r.2.1.2.2.1 ∧ (r.2.1.2.2.2 = true → h.1.2.2.2 = true) ∧
  (∀ v, r.1 = some v → Met l (fl_y a) (fl_wd a) (fl_rm a (r.2.1.2.1 - h.1.2.1) (r.2.1.2.2.1 - h.1.2.2.1)) (fl_Pc D G w Ls xs as h) (fl_Qc D G w Ls xs r) (r.2.1.2.1 - h.1.2.1) (r.2.1.2.2.1 - h.1.2.2.1) (fl_Af w)) ∧
  (r.1 = none → vx_Met l (fl_y a) (fl_wd a) (fl_rm a (r.2.1.2.1 - h.1.2.1) (r.2.1.2.2.1 - h.1.2.2.1)) (fl_Pc D G w Ls xs as h) (fl_Qc D G w Ls xs r) (fl_XC D G w Ls xs r) (r.2.1.2.1 - h.1.2.1) (r.2.1.2.2.1 - h.1.2.2.1) (fl_Af w))
theorem fl_blind {D : va_G} {G : ClassId × ClassId × ClassId} {w : fl_V} {Ls : Nat} {xs : Nat → Int32} {as : List Value} {h : fl_H} : FrameBlind (fl_Pc D G w Ls xs as h) := by
  intro a U g mk hp
  obtain ⟨h1, h2, h3, h4⟩ := hp
  exact ⟨h1, h2, h3.to (State.WarmedH.refl U) (Nat.le_refl _) (fun _ _ _ => rfl), h4⟩
theorem fl_T_good : ∀ x ∈ fl_T, (x.onTables && x.keeps) = true ∨ ∃ ty, x = .arrayClass ty := fun x hx => good_of_word (List.mem_filter.mp hx).2
theorem fl_mok_spec {a : Nat} (h : fl_mok a = true) : fl_cw a ∈ fl_T ∧ Cond.initialized (fl_y a).cls ∈ fl_T ∧ ((fl_y a).cls ≠ "java/lang/invoke/MethodHandle" ∧ (fl_y a).cls ≠ "java/lang/invoke/VarHandle") ∧ fl_mx a ≤ 45 ∧ plainFor (fl_y a) = true := by
  simp only [fl_mok, Bool.and_eq_true, decide_eq_true_eq] at h
  exact ⟨fl_tm_mem h.1.1.1.1, fl_tm_mem h.1.1.1.2, h.1.1.2, h.1.2, h.2⟩
theorem fl_gi {a : Nat} (h : fl_cw a ∈ fl_T) : GoodIn fl_T (fl_wd a) := by
  intro x hx
  have hm : x ∈ fl_T := by
    rcases List.mem_cons.mp hx with e | e
    · rw [e]; exact h
    · exact e
  exact ⟨hm, fl_T_good x hm⟩
theorem fl_wd_nil {a : Nat} (h : fl_hh a = []) : fl_wd a = Cond.code (fl_y a) (fl_bytes a) (fl_mx a) (fl_ret a) :: fl_T := by
  unfold fl_wd fl_cw
  rw [h]
theorem fl_wd_cons {a : Nat} (h : fl_hh a ≠ []) : fl_wd a = Cond.codeWith (fl_y a) (fl_bytes a) (fl_mx a) (fl_ret a) (fl_hh a) :: fl_T := by
  unfold fl_wd fl_cw
  cases hh : fl_hh a with
  | nil => exact absurd hh h
  | cons x l => rfl
theorem fl_giS {a i : Nat} {own : String} (h : fl_cw a ∈ fl_T) (h1 : Cond.methodLink own i (fl_y a) ∈ fl_T) (h2 : Cond.static (fl_y a) ∈ fl_T) (h3 : Cond.initialized (fl_y a).cls ∈ fl_T) : GoodIn fl_T (va_wsS own i (fl_y a) (fl_wd a)) := by
  intro x hx
  unfold va_wsS at hx
  rcases List.mem_append.mp hx with e | e
  · have hm : x ∈ fl_T := by
      rcases List.mem_cons.mp e with e | e
      · rw [e]; exact h1
      · rcases List.mem_cons.mp e with e | e
        · rw [e]; exact h2
        · rw [List.mem_singleton.mp e]; exact h3
    exact ⟨hm, fl_T_good x hm⟩
  · exact fl_gi h x e
section FLC
variable {l : Launch} {D : va_G} {G : ClassId × ClassId × ClassId} {w : fl_V} {Ls : Nat} {xs : Nat → Int32} {p : Program} {e : Env} {R : Room} {s : State} {m : MethodId} {args : Array Value} {below : List Frame} {meth : Method} {c : Code} {Q : State → Prop} {k0 s0 mid pc : Nat} {L : fl_L} {st : List Value} {h : fl_H} {o : fl_O}
variable {nx : Nat → fl_L → List Value → fl_H → Option fl_O} {cl : Nat → List Value → fl_H → Option fl_O} {H : Heap} {locs : List Loc} {cells slots : Nat} {ls : Array Slot}
/-- it comes back -/
theorem fl_back {r : fl_O} {v : Option Value} {mc ms : Nat} {aa : Array Value} {st0 rest : List Value} (hrun : va_Run p l e R s m args below meth c H locs cells slots mc ms (F0 m pc ls st0) (rest.map (fl_cv w)) (fl_Qc D G w Ls xs r aa) (fl_Af w)) (hS : va_S (fl_Af w) s.heap H locs) (hv : r.1 = some v)
    (kk : ∀ (H1 : Heap) (locs1 : List Loc), fl_R D G w Ls xs r.2 H1 → va_S (fl_Af w) s.heap H1 locs1 → W p l e R s m args below meth c H1 locs1 (cells + mc) (slots + ms) Q (F0 m (pc + 3) ls ((v.toList ++ rest).map (fl_cv w)))) : W p l e R s m args below meth c H locs cells slots Q (F0 m pc ls st0) := by
  intro T hT X
  obtain ⟨v', st₀, t, T', L, h0, X', hL, e1, e2, ⟨⟨v9, hv1, hv2⟩, hR', hF⟩, st⟩ := hrun T hT X
  cases Option.some.inj (hv1.symm.trans hv)
  cases hv2
  obtain ⟨k1, k2, k3⟩ := vx_keep h0 e1 hS (fun q _ z => z) (fun q z => z) hL hF
  obtain ⟨t2, a1, b1⟩ := kk T'.heap (locs ++ L) (by rw [e1]; exact hR') k3 T' rfl X'
  refine ⟨t2, st t2 ?_, b1⟩
  cases v with
  | none => exact a1
  | some x => exact a1
/-- it throws -/
theorem fl_backX {r : fl_O} {mc ms : Nat} {aa : Array Value} {st0 rest : List Value} (hrun : vx_Run p l e R s m args below meth c H locs cells slots mc ms (F0 m pc ls st0) rest (fl_Qc D G w Ls xs r aa) (fl_XC D G w Ls xs r) (fl_Af w)) (hS : va_S (fl_Af w) s.heap H locs) (hv : r.1 = none)
    (kk : ∀ (H1 : Heap) (locs1 : List Loc) (q : Addr) (ce : Cell), fl_R D G w Ls xs r.2 H1 → va_S (fl_Af w) s.heap H1 locs1 → H1[q]? = some ce → ce.vm = .none → s.vm.findClass fl_nsee = some ce.cls → vx_W p l e R s m args below meth c H1 locs1 (cells + mc) (slots + ms) Q (F0 m pc ls rest) q) : W p l e R s m args below meth c H locs cells slots Q (F0 m pc ls st0) := by
  intro T hT X
  rcases hrun T hT X with ⟨v', st₀, t, T', L, h0, X', hL, e1, e2, ⟨⟨v9, hv1, hv2⟩, hR', hF⟩, st⟩ | ⟨q, st₀, t, T', L, E, ce, h0, X', hL, e1, e2, ⟨hE, hR', hF⟩, hce, hcv, hcl, st⟩
  · rw [hv] at hv1; cases hv1
  · obtain ⟨k1, k2, k3⟩ := vx_keep h0 e1 hS (fun q _ z => z) (fun q z => z) hL hF
    rw [hE] at hcl
    obtain ⟨t2, a1, b1⟩ := kk T'.heap (locs ++ L) q ce (by rw [e1]; exact hR') k3 (by rw [e1]; exact hce) hcv hcl T' rfl X'
    exact ⟨t2, st.trans a1, b1⟩
theorem fl_phi_cl {g : Bool} {a pc9 : Nat} {as r : List Value} {sw : List (Int32 × Nat)} (hφ : fl_phi nx cl (some (g, .inr (.inr (.inr (.inl (a, as, pc9, L, r, sw, h)))))) = some o) : g = true ∧ fl_aft nx pc9 L r sw (cl a as h) = some o := by
  cases g
  · cases hφ
  · exact ⟨rfl, hφ⟩
theorem fl_phi_call {nx : Nat → fl_L → List Value → fl_H → Option fl_O} {cl : Nat → List Value → fl_H → Option fl_O} {ins : Instr} {len a b c9 d p : Nat} {x : Int32} {q : Int64} {sw : List (Int32 × Nat)} {lv : Option (List Bool)} (hφ : fl_phi nx cl (fl_call (ins, len, a, b, c9, d, p, x, q, sw, lv) pc L st h) = some o) :
    ∃ (as r : List Value), fl_pop b [] st = some (as, r) ∧ (c9 = 0 ∨ c9 = 10 ∨ (c9 = 1 ∧ ∃ k l, as = .ref k :: l ∧ fl_k h k = (1, d % 16)) ∨ (c9 = 3 ∧ ∃ k l, as = .ref k :: l ∧ (fl_k h k).1 = 7) ∨ (c9 = 2 ∧ ∃ k l, as = .ref k :: l) ∨ (c9 = 12 ∧ ∃ k l, as = .ref k :: l)) ∧ fl_cat r ≤ 8 ∧ fl_cat as ≤ d / 16 ∧ (sw = [] ∨ L = []) ∧ fl_aft nx (pc + 3) L r sw (cl a as h) = some o := by
  unfold fl_call at hφ
  dsimp only at hφ
  cases hp : fl_pop b [] st with
  | none => rw [hp] at hφ; cases hφ
  | some z =>
    obtain ⟨as, r⟩ := z
    rw [hp] at hφ
    obtain ⟨hg, hφ⟩ := fl_phi_cl hφ
    · simp only [Bool.and_eq_true] at hg
      obtain ⟨g1, g2, g4, g3⟩ := hg
      refine ⟨as, r, rfl, ?_, Nat.le_of_ble_eq_true g2, Nat.le_of_ble_eq_true g4, ?_, hφ⟩
      · split at g1
        · exact Or.inl rfl
        · exact Or.inr (Or.inl rfl)
        · exact Or.inr (Or.inr (Or.inl ⟨rfl, _, _, rfl, of_decide_eq_true g1⟩))
        · exact Or.inr (Or.inr (Or.inr (Or.inl ⟨rfl, _, _, rfl, of_decide_eq_true g1⟩)))
        · exact Or.inr (Or.inr (Or.inr (Or.inr (Or.inl ⟨rfl, _, _, rfl⟩))))
        · exact Or.inr (Or.inr (Or.inr (Or.inr (Or.inr ⟨rfl, _, _, rfl⟩))))
        · cases g1
      · cases sw with
        | nil => exact Or.inl rfl
        | cons y z => exact Or.inr (List.isEmpty_iff.mp g3)
theorem fl_aft_inv {r : List Value} {sw : List (Int32 × Nat)} {z : Option fl_O} (hφ : fl_aft nx pc L r sw z = some o) : ∃ q : fl_O, z = some q ∧ ((∃ v, q.1 = some v ∧ nx pc L (v.toList ++ r) q.2 = some o) ∨ (q.1 = none ∧ ∃ x t l9, sw = (x, t) :: l9 ∧ nx t L [] q.2 = some o)) := by
  unfold fl_aft at hφ
  split at hφ
  · exact ⟨_, rfl, Or.inl ⟨_, rfl, hφ⟩⟩
  · split at hφ
    · exact ⟨_, rfl, Or.inr ⟨rfl, _, _, _, rfl, hφ⟩⟩
    · cases hφ
  · cases hφ
end FLC
