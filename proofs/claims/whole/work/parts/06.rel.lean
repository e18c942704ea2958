/-! WHAT THE ABSTRACT MACHINE'S HEAP AND LOCALS STAND FOR -/
/-- base, String constants, their bytes, the script, the formatter -/
abbrev fl_V : Type := Nat × (Nat → Nat) × (Nat → Nat) × Nat × Value
def fl_ad (w : fl_V) (k : Nat) : Nat := if k < 1048576 then w.1 + k else if k < 1048592 then w.2.1 (k - 1048576) else if k < 1048608 then w.2.2.1 (k - 1048592) else w.2.2.2.1
def fl_cv (w : fl_V) : Value → Value
  | .ref k => .ref (fl_ad w k)
  | .retAddr _ => w.2.2.2.2
  | v => v
/-- the formatter is null or a reference -/
def fl_fm (w : fl_V) : Prop := w.2.2.2.2.category = 1
theorem fl_cv_cat {w : fl_V} (hw : fl_fm w) (v : Value) : (fl_cv w v).category = v.category := by
  cases v <;> first | rfl | exact hw
theorem fl_two_cat (v : Value) : fl_two (some v) = true ↔ v.category = 2 := by
  cases v <;> simp [fl_two, Value.category]
/-- the free part -/
abbrev fl_Af (w : fl_V) : Nat → Prop := fun q => w.1 ≤ q
def fl_slen : List Nat := [8, 4, 1, 12, 2, 1, 3]
def fl_sbyt : List (List Int32) := [[33, 61, 38, 124, 94, 110, 114, 35], [49, 50, 51, 52], [59], [97, 98, 99, 100, 101, 102, 103, 104, 105, 106, 107, 108], [48, 49], [58], [48, 49, 117]]
def fl_nest : List (String × Nat × MethodName × String) := [("FaultLists", 23, ⟨"FaultLists$Reader", "<init>", "()V"⟩, "FaultLists"), ("FaultLists$Reader", 11, ⟨"FaultLists$Net", "<init>", "()V"⟩, "FaultLists"), ("FaultLists", 30, ⟨"FaultLists$Run", "<init>", "()V"⟩, "FaultLists"), ("FaultLists$Run", 11, ⟨"FaultLists$Net", "<init>", "()V"⟩, "FaultLists"), ("FaultLists$Run", 20, ⟨"FaultLists$Bench", "<init>", "()V"⟩, "FaultLists"), ("FaultLists$Bench", 9, ⟨"FaultLists$Side", "<init>", "()V"⟩, "FaultLists"), ("FaultLists", 46, ⟨"FaultLists$Bench", "<init>", "()V"⟩, "FaultLists"), ("FaultLists", 53, ⟨"FaultLists$Side", "<init>", "()V"⟩, "FaultLists"), ("FaultLists", 60, ⟨"FaultLists$Kin", "<init>", "()V"⟩, "FaultLists"), ("FaultLists", 67, ⟨"FaultLists$Search", "<init>", "()V"⟩, "FaultLists"), ("FaultLists$Search", 22, ⟨"FaultLists$Moves", "<init>", "()V"⟩, "FaultLists"), ("FaultLists$Moves", 13, ⟨"FaultLists$Side", "<init>", "()V"⟩, "FaultLists"), ("FaultLists$Run", 106, ⟨"FaultLists", "hasBit", "(JI)Z"⟩, "FaultLists"), ("FaultLists$Side", 95, ⟨"FaultLists", "hasBit", "(JI)Z"⟩, "FaultLists"), ("FaultLists$Kin", 75, ⟨"FaultLists", "hasBit", "(JI)Z"⟩, "FaultLists"), ("FaultLists$Moves", 100, ⟨"FaultLists", "hasBit", "(JI)Z"⟩, "FaultLists")]
def fl_strs : List (String × Nat × String × Nat) := [("FaultLists$Reader", 74, "!=&|^nr#", 0), ("FaultListsModel", 162, "1234", 1), ("FaultListsModel", 164, ";", 2), ("FaultListsModel", 148, "!=&|^nr#", 0), ("FaultListsModel", 142, "abcdefghijkl", 3), ("FaultListsModel", 157, "01", 4), ("FaultListsModel", 169, ":", 5), ("FaultListsModel", 239, "01u", 6)]
/-- what holds all along -/
def fl_EX (D : va_G) (G : ClassId × ClassId × ClassId) (w : fl_V) (Ls : Nat) (xs : Nat → Int32) (U : State) (H : Heap) : Prop :=
  va_K D vwCl [(G.1, .int), (G.2.1, .long), (G.2.2, .boolean)] U ∧
  ((∀ x ∈ fl_nest, va_Nw (.methodLinkNest x.1 x.2.1 x.2.2.1 x.2.2.2) U) ∧ (∀ q ∈ lw_tbl, q.tabsOnly = true → va_Nw q U)) ∧
  (∀ x ∈ fl_strs, vk_R x.1 x.2.1 x.2.2.1 (w.2.1 x.2.2.2) U) ∧
  vk_S 7 fl_slen fl_sbyt w.2.1 w.2.2.1 (fl_Af w) U H ∧
  va_Z "java/lang/String" "COMPACT_STRINGS" "Z" (.int 1) (fl_Af w) U H ∧
  va_Z "jdk/internal/util/Preconditions" "SIOOBE_FORMATTER" "Ljava/util/function/BiFunction;" w.2.2.2.2 (fl_Af w) U H ∧
  vx_Zq Bundle.tN "UNASSIGNED_STACK" Bundle.steD (fl_Af w) U H ∧ vx_Zq Bundle.tN "SUPPRESSED_SENTINEL" Bundle.listD (fl_Af w) U H ∧
  va_X w.2.2.2.1 Ls xs U H ∧ (w.2.2.2.1 < w.1 ∧ w.1 ≤ H.size ∧ fl_fm w)
theorem fl_tabs {s U : State} {q : Cond} (hW : s.WarmedH U.vm) (hk : q.tabsOnly = true) (h : va_Nw q s) : va_Nw q U := by
  have h9 : q.before #[] (U.setVm U.vm) = true := Cond.tabsOnly_warm (args' := #[]) (T := U) hW q hk h
  rw [State.setVm_self] at h9
  exact h9
theorem fl_EX.to {D : va_G} {G : ClassId × ClassId × ClassId} {w : fl_V} {Ls : Nat} {xs : Nat → Int32} {s U : State} {H0 H : Heap} (h : fl_EX D G w Ls xs s H0) (hW : s.WarmedH U.vm) (hz : H0.size ≤ H.size) (hq : ∀ a : Nat, a < H0.size → ¬ fl_Af w a → H[a]? = H0[a]?) : fl_EX D G w Ls xs U H := by
  obtain ⟨h1, h2, h3, h4, h5, h6, h7, h8, h9, h10, h11, h12⟩ := h
  refine ⟨h1.moved hW.alike, ⟨fun x hx => va_Nw.warmM hW (h2.1 x hx), fun q hq hk => fl_tabs hW hk (h2.2 q hq hk)⟩, fun x hx => (h3 x hx).warm hW, (h4.moved hW.alike).kept hq, (h5.moved hW.alike).kept hq, (h6.moved hW.alike).kept hq, (h7.moved hW.alike).kept hq, (h8.moved hW.alike).kept hq, (h9.moved hW.alike).kept (hq _ (Nat.lt_of_lt_of_le h10 h11) (Nat.not_le.mpr h10)), h10, Nat.le_trans h11 hz, h12⟩
def fl_fv (w : fl_V) (h : fl_H) (k j t : Nat) : Value := match t with
  | 1 => .long (fl_l h k j)
  | 2 => match fl_r h k j with
    | none => .null
    | some q => .ref (fl_ad w q)
  | _ => .int (fl_i h k j)
def fl_fs (w : fl_V) (h : fl_H) (k : Nat) : List Nat → Nat → List Value
  | [], _ => []
  | t :: ts, j => fl_fv w h k j t :: fl_fs w h k ts (j + 1)
theorem fl_fs_at (w : fl_V) (h : fl_H) (k : Nat) : ∀ (ts : List Nat) (j i : Nat), (fl_fs w h k ts j)[i]? = (ts[i]?).map (fun t => fl_fv w h k (j + i) t)
  | [], _, _ => rfl
  | t :: ts, j, 0 => rfl
  | t :: ts, j, i + 1 => by
    rw [fl_fs, List.getElem?_cons_succ, List.getElem?_cons_succ, fl_fs_at w h k ts (j + 1) i, show j + 1 + i = j + (i + 1) by omega]
theorem fl_fs_len (w : fl_V) (h : fl_H) (k : Nat) : ∀ (ts : List Nat) (j : Nat), (fl_fs w h k ts j).length = ts.length
  | [], _ => rfl
  | t :: ts, j => by rw [fl_fs, List.length_cons, List.length_cons, fl_fs_len w h k ts (j + 1)]
def fl_cell (G : ClassId × ClassId × ClassId) (w : fl_V) (h : fl_H) (k : Nat) : va_E := match fl_k h k with
  | (1, c) => .inr (c, fl_fs w h k (fl_ft c) 0)
  | (3, n) => .inl (G.2.1, n, .inr (.inl (fl_l h k)))
  | (4, n) => .inl (G.2.2, n, .inl (fl_i h k))
  | (_, n) => .inl (G.1, n, .inl (fl_i h k))
def fl_ws (G : ClassId × ClassId × ClassId) (w : fl_V) (h : fl_H) : va_W := (List.range h.1.1).map (fun k => (w.1 + k, fl_cell G w h k))
theorem fl_ws_at {G : ClassId × ClassId × ClassId} {w : fl_V} {h : fl_H} {k : Nat} (hk : k < h.1.1) : (fl_ws G w h)[k]? = some (w.1 + k, fl_cell G w h k) := by
  unfold fl_ws
  rw [List.getElem?_map, List.getElem?_range hk]
  rfl
theorem fl_ws_len {G : ClassId × ClassId × ClassId} {w : fl_V} {h : fl_H} : (fl_ws G w h).length = h.1.1 := by
  unfold fl_ws; rw [List.length_map, List.length_range]
theorem fl_ws_of {G : ClassId × ClassId × ClassId} {w : fl_V} {h : fl_H} {k : Nat} {q : Nat × va_E} (hk : (fl_ws G w h)[k]? = some q) : k < h.1.1 ∧ q = (w.1 + k, fl_cell G w h k) := by
  have hl := (List.getElem?_eq_some_iff.mp hk).1
  rw [fl_ws_len] at hl
  exact ⟨hl, (Option.some.inj ((fl_ws_at hl).symm.trans hk)).symm⟩
theorem fl_ws_D {G : ClassId × ClassId × ClassId} {w : fl_V} {h : fl_H} : va_D (fl_Af w) (fl_ws G w h) := by
  refine ⟨fun i j p q hi hj e => ?_, fun k q hk => ?_⟩
  · have h1 := (fl_ws_of hi).2
    have h2 := (fl_ws_of hj).2
    rw [h1, h2] at e
    have e' : w.1 + i = w.1 + j := e
    omega
  · rw [(fl_ws_of hk).2]
    exact Nat.le_add_right _ _
/-- what lies outside: the constants and the script -/
def fl_X (Ls : Nat) (xs : Nat → Int32) (h : fl_H) : Prop := ∀ k, 1048576 ≤ k → (k < 1048583 ∧ fl_k h k = (7, k - 1048576)) ∨ (1048592 ≤ k ∧ k < 1048599 ∧ fl_k h k = (5, fl_slen.getD (k - 1048592) 0) ∧ fl_i h k = (fun j => (fl_sbyt.getD (k - 1048592) []).getD j 0)) ∨ (k = 1048608 ∧ fl_k h k = (6, Ls) ∧ fl_i h k = xs) ∨ (fl_k h k).1 = 0
def fl_R (D : va_G) (G : ClassId × ClassId × ClassId) (w : fl_V) (Ls : Nat) (xs : Nat → Int32) (h : fl_H) (H : Heap) : Prop :=
  va_P D vwCl (fl_ws G w h) H ∧ (h.1.2.2.2 = true → h.1.1 = h.1.2.1) ∧ (∀ k, k < 1048576 → (fl_k h k).1 < 5 ∧ (h.1.1 ≤ k → (fl_k h k).1 = 0)) ∧ h.1.1 ≤ 1048576 ∧ fl_X Ls xs h
/-- an inner cell's number -/
theorem fl_R.inner {D : va_G} {G : ClassId × ClassId × ClassId} {w : fl_V} {Ls : Nat} {xs : Nat → Int32} {h : fl_H} {H : Heap} (hR : fl_R D G w Ls xs h H) {k : Nat} (h0 : (fl_k h k).1 ≠ 0) (h5 : (fl_k h k).1 < 5) : k < h.1.1 := by
  obtain ⟨-, -, h2, -, hX⟩ := hR
  rcases Nat.lt_or_ge k h.1.1 with q | q
  · exact q
  · rcases Nat.lt_or_ge k 1048576 with q2 | q2
    · exact absurd ((h2 k q2).2 q) h0
    · rcases hX k q2 with ⟨-, e⟩ | ⟨-, -, e, -⟩ | ⟨-, e, -⟩ | e
      · rw [e] at h5; exact absurd h5 (by show ¬ 7 < 5; decide)
      · rw [e] at h5; exact absurd h5 (Nat.lt_irrefl 5)
      · rw [e] at h5; exact absurd h5 (by show ¬ 6 < 5; decide)
      · exact absurd e h0
theorem fl_R.ad {D : va_G} {G : ClassId × ClassId × ClassId} {w : fl_V} {Ls : Nat} {xs : Nat → Int32} {h : fl_H} {H : Heap} (hR : fl_R D G w Ls xs h H) {k : Nat} (hk : k < h.1.1) : fl_ad w k = w.1 + k := by
  unfold fl_ad
  rw [if_pos (Nat.lt_of_lt_of_le hk hR.2.2.2.1)]
/-- an outer number -/
theorem fl_R.outer {D : va_G} {G : ClassId × ClassId × ClassId} {w : fl_V} {Ls : Nat} {xs : Nat → Int32} {h : fl_H} {H : Heap} (hR : fl_R D G w Ls xs h H) {k : Nat} (h5 : 5 ≤ (fl_k h k).1) : (k < 1048583 ∧ 1048576 ≤ k ∧ fl_k h k = (7, k - 1048576)) ∨ (1048592 ≤ k ∧ k < 1048599 ∧ fl_k h k = (5, fl_slen.getD (k - 1048592) 0) ∧ fl_i h k = (fun j => (fl_sbyt.getD (k - 1048592) []).getD j 0)) ∨ (k = 1048608 ∧ fl_k h k = (6, Ls) ∧ fl_i h k = xs) := by
  obtain ⟨-, -, h2, -, hX⟩ := hR
  rcases Nat.lt_or_ge k 1048576 with q2 | q2
  · exact absurd (h2 k q2).1 (Nat.not_lt.mpr h5)
  · rcases hX k q2 with ⟨e0, e⟩ | e | e | e
    · exact Or.inl ⟨e0, q2, e⟩
    · exact Or.inr (Or.inl e)
    · exact Or.inr (Or.inr e)
    · rw [e] at h5; exact absurd h5 (by decide)
theorem fl_cell_obj {G : ClassId × ClassId × ClassId} {w : fl_V} {h : fl_H} {k a : Nat} (hk : fl_k h k = (1, a)) : fl_cell G w h k = .inr (a, fl_fs w h k (fl_ft a) 0) := by
  unfold fl_cell; rw [hk]; rfl
theorem fl_cell_int {G : ClassId × ClassId × ClassId} {w : fl_V} {h : fl_H} {k n : Nat} (hk : fl_k h k = (2, n)) : fl_cell G w h k = .inl (G.1, n, .inl (fl_i h k)) := by
  unfold fl_cell; rw [hk]; rfl
theorem fl_cell_long {G : ClassId × ClassId × ClassId} {w : fl_V} {h : fl_H} {k n : Nat} (hk : fl_k h k = (3, n)) : fl_cell G w h k = .inl (G.2.1, n, .inr (.inl (fl_l h k))) := by
  unfold fl_cell; rw [hk]; rfl
theorem fl_cell_bool {G : ClassId × ClassId × ClassId} {w : fl_V} {h : fl_H} {k n : Nat} (hk : fl_k h k = (4, n)) : fl_cell G w h k = .inl (G.2.2, n, .inl (fl_i h k)) := by
  unfold fl_cell; rw [hk]; rfl
theorem fl_fs_congr {w : fl_V} {h h' : fl_H} {k : Nat} (h1 : fl_i h' k = fl_i h k) (h2 : fl_l h' k = fl_l h k) (h3 : fl_r h' k = fl_r h k) : ∀ (ts : List Nat) (j : Nat), fl_fs w h' k ts j = fl_fs w h k ts j
  | [], _ => rfl
  | t :: ts, j => by
    rw [fl_fs, fl_fs, fl_fs_congr h1 h2 h3 ts (j + 1)]
    unfold fl_fv
    rw [h1, h2, h3]
theorem fl_cell_congr {G : ClassId × ClassId × ClassId} {w : fl_V} {h h' : fl_H} {k : Nat} (h0 : fl_k h' k = fl_k h k) (h1 : fl_i h' k = fl_i h k) (h2 : fl_l h' k = fl_l h k) (h3 : fl_r h' k = fl_r h k) : fl_cell G w h' k = fl_cell G w h k := by
  unfold fl_cell
  rw [h0, h1, h2]
  split
  · rw [fl_fs_congr h1 h2 h3]
  all_goals rfl
theorem fl_ws_upd {G : ClassId × ClassId × ClassId} {w : fl_V} {h h' : fl_H} {k : Nat} {c : va_E} (hn : h'.1.1 = h.1.1) (hc : fl_cell G w h' k = c) (ho : ∀ j, j ≠ k → fl_cell G w h' j = fl_cell G w h j) : fl_ws G w h' = (fl_ws G w h).set k (w.1 + k, c) := by
  apply List.ext_getElem?
  intro j
  by_cases hj : j < h.1.1
  · rw [fl_ws_at (by rw [hn]; exact hj)]
    by_cases e : j = k
    · subst e
      rw [List.getElem?_set_self (by rw [fl_ws_len]; exact hj), hc]
    · rw [List.getElem?_set_ne (Ne.symm e), fl_ws_at hj, ho j e]
  · rw [List.getElem?_eq_none (by rw [fl_ws_len, hn]; omega), List.getElem?_eq_none (by rw [List.length_set, fl_ws_len]; omega)]
theorem fl_u_self {α : Type} (f : Nat → Nat → α) (a j : Nat) (x : α) : fl_u f a j x a = fun k => if k = j then x else f a k := by
  funext k
  simp [fl_u]
theorem fl_u_ne {α : Type} (f : Nat → Nat → α) {a b : Nat} (j : Nat) (x : α) (h : b ≠ a) : fl_u f a j x b = f b := by
  funext k
  simp [fl_u, h]
/-- the same but for one cell -/
theorem fl_R.upd {D : va_G} {G : ClassId × ClassId × ClassId} {w : fl_V} {Ls : Nat} {xs : Nat → Int32} {h h' : fl_H} {H H1 : Heap} {k : Nat} {c : va_E} (hR : fl_R D G w Ls xs h H) (hk : k < h.1.1) (h1 : h'.1 = h.1) (hkd : fl_k h' = fl_k h) (hi : ∀ j, j ≠ k → fl_i h' j = fl_i h j) (hl : ∀ j, j ≠ k → fl_l h' j = fl_l h j) (hr : ∀ j, j ≠ k → fl_r h' j = fl_r h j)
    (hc : fl_cell G w h' k = c) (hP : va_P D vwCl ((fl_ws G w h).set k (w.1 + k, c)) H1) : fl_R D G w Ls xs h' H1 := by
  obtain ⟨-, r2, r3, r4, r5⟩ := hR
  refine ⟨?_, by rw [h1]; exact r2, by rw [h1, hkd]; exact r3, by rw [h1]; exact r4, fun j hj => ?_⟩
  · rw [fl_ws_upd (by rw [h1]) hc (fun j hj => fl_cell_congr (by rw [hkd]) (hi j hj) (hl j hj) (hr j hj))]
    exact hP
  · rw [hkd, hi j (fun e => by omega)]
    exact r5 j hj
/-! locals -/
def fl_LR (w : fl_V) (ls : Array Slot) (nL : Nat) (L : fl_L) : Prop := ls.size = nL ∧ lv_wf ls ∧ ∀ i v, fl_get L i = some v → ls[i]? = some (.val (fl_cv w v))
theorem fl_get_mask : ∀ (bs : List Bool) (L : fl_L) (i : Nat) (v : Value), fl_get (fl_mask bs L) i = some v → fl_get L i = some v
  | [], L, i, v, h => by
    cases L <;> cases h
  | _ :: _, [], i, v, h => by cases h
  | b :: bs, x :: L, 0, v, h => by
    cases b
    · cases h
    · exact h
  | b :: bs, x :: L, i + 1, v, h => fl_get_mask bs L i v h
theorem fl_LR.mask {w : fl_V} {ls : Array Slot} {nL : Nat} {L : fl_L} (h : fl_LR w ls nL L) (bs : List Bool) : fl_LR w ls nL (fl_mask bs L) := ⟨h.1, h.2.1, fun i v hv => h.2.2 i v (fl_get_mask bs L i v hv)⟩
theorem fl_LR.lb {w : fl_V} {ls : Array Slot} {nL : Nat} {L : fl_L} (C : Nat → Nat → Option fl_E) (m pc : Nat) (h : fl_LR w ls nL L) : fl_LR w ls nL (fl_lb C m pc L) := by
  unfold fl_lb
  rcases C m pc with _ | ⟨_, _, _, _, _, _, _, _, _, _, _ | bs⟩
  · exact h
  · exact h
  · exact h.mask bs
theorem fl_get_set : ∀ (L : fl_L) (i : Nat) (x : Option Value) (j : Nat), fl_get (fl_set L i x) j = if j = i then x else fl_get L j
  | [], 0, x, 0 => rfl
  | [], 0, x, j + 1 => by rw [if_neg (by omega)]; rfl
  | [], i + 1, x, 0 => by rw [if_neg (by omega)]; rfl
  | [], i + 1, x, j + 1 => by
    show fl_get (fl_set [] i x) j = _
    rw [fl_get_set [] i x j]
    by_cases e : j = i
    · rw [if_pos e, if_pos (by omega)]
    · rw [if_neg e, if_neg (by omega)]; cases j <;> rfl
  | y :: L, 0, x, 0 => rfl
  | y :: L, 0, x, j + 1 => by rw [if_neg (by omega)]; rfl
  | y :: L, i + 1, x, 0 => by rw [if_neg (by omega)]; rfl
  | y :: L, i + 1, x, j + 1 => by
    show fl_get (fl_set L i x) j = _
    rw [fl_get_set L i x j]
    by_cases e : j = i
    · rw [if_pos e, if_pos (by omega)]
    · rw [if_neg e, if_neg (by omega)]; rfl
/-- all that is listed, with its place -/
def fl_as (w : fl_V) : fl_L → Nat → List (Nat × Value)
  | [], _ => []
  | none :: l, i => fl_as w l (i + 1)
  | some v :: l, i => (i, fl_cv w v) :: fl_as w l (i + 1)
theorem fl_as_mem (w : fl_V) : ∀ (L : fl_L) (i : Nat) (q : Nat × Value), q ∈ fl_as w L i ↔ ∃ j v, q = (i + j, fl_cv w v) ∧ fl_get L j = some v
  | [], i, q => by
    constructor
    · intro h; cases h
    · rintro ⟨j, v, -, h⟩; cases h
  | x :: L, i, q => by
    have ih := fl_as_mem w L (i + 1) q
    have key : (∃ j v, q = (i + j, fl_cv w v) ∧ fl_get (x :: L) j = some v) ↔ (∃ v, q = (i, fl_cv w v) ∧ x = some v) ∨ ∃ j v, q = (i + 1 + j, fl_cv w v) ∧ fl_get L j = some v := by
      constructor
      · rintro ⟨j, v, h1, h2⟩
        cases j with
        | zero => exact Or.inl ⟨v, h1, h2⟩
        | succ j => exact Or.inr ⟨j, v, by rw [h1]; congr 1; omega, h2⟩
      · rintro (⟨v, h1, h2⟩ | ⟨j, v, h1, h2⟩)
        · exact ⟨0, v, h1, h2⟩
        · exact ⟨j + 1, v, by rw [h1]; congr 1; omega, h2⟩
    rw [key, ← ih]
    cases x with
    | none =>
      show q ∈ fl_as w L (i + 1) ↔ _
      constructor
      · exact fun h => Or.inr h
      · rintro (⟨v, -, h⟩ | h)
        · cases h
        · exact h
    | some y =>
      show q ∈ (i, fl_cv w y) :: fl_as w L (i + 1) ↔ _
      rw [List.mem_cons]
      constructor
      · rintro (h | h)
        · exact Or.inl ⟨y, h, rfl⟩
        · exact Or.inr h
      · rintro (⟨v, h1, h2⟩ | h)
        · cases h2; exact Or.inl h1
        · exact Or.inr h
theorem fl_LR.has {w : fl_V} {ls : Array Slot} {nL : Nat} {L : fl_L} (h : fl_LR w ls nL L) : lv_has ls nL (fl_as w L 0) := by
  refine ⟨h.1, h.2.1, fun q hq => ?_⟩
  obtain ⟨j, v, h1, h2⟩ := (fl_as_mem w L 0 q).mp hq
  rw [h1, Nat.zero_add]
  exact h.2.2 j v h2
theorem fl_LR.st1 {w : fl_V} (hw : fl_fm w) {ls' : Array Slot} {nL i : Nat} {L : fl_L} {v : Value} (hk : fl_nk L i = true) (h : lv_has ls' nL ((i, fl_cv w v) :: (fl_as w L 0).filter (fun q => !(q.1 == i) && !(q.1 + 1 == i && q.2.category == 2)))) : fl_LR w ls' nL (fl_set L i (some v)) := by
  refine ⟨h.1, h.2.1, fun j x hx => ?_⟩
  rw [fl_get_set] at hx
  by_cases e : j = i
  · rw [if_pos e] at hx
    cases hx
    subst e
    exact h.2.2 _ List.mem_cons_self
  · rw [if_neg e] at hx
    refine h.2.2 (j, fl_cv w x) (List.mem_cons_of_mem _ (List.mem_filter.mpr ⟨(fl_as_mem w L 0 _).mpr ⟨j, x, by rw [Nat.zero_add], hx⟩, ?_⟩))
    simp only [Bool.and_eq_true, Bool.not_eq_true', beq_eq_false_iff_ne, ne_eq, Bool.and_eq_false_iff]
    refine ⟨e, ?_⟩
    by_cases e2 : j + 1 = i
    · right
      subst e2
      rw [fl_cv_cat hw]
      intro hc
      have : fl_two (fl_get L j) = true := by rw [hx]; exact (fl_two_cat x).mpr hc
      simp [fl_nk, this] at hk
    · left; exact e2
theorem fl_LR.st2 {w : fl_V} (hw : fl_fm w) {ls' : Array Slot} {nL i : Nat} {L : fl_L} {v : Value} (hk : fl_nk L i = true) (h : lv_has ls' nL ((i, fl_cv w v) :: (fl_as w L 0).filter (fun q => !(q.1 == i) && (!(q.1 == i + 1) && !(q.1 + 1 == i && q.2.category == 2))))) : fl_LR w ls' nL (fl_set (fl_set L i (some v)) (i + 1) none) := by
  refine ⟨h.1, h.2.1, fun j x hx => ?_⟩
  rw [fl_get_set] at hx
  by_cases e1 : j = i + 1
  · rw [if_pos e1] at hx; cases hx
  rw [if_neg e1, fl_get_set] at hx
  by_cases e : j = i
  · rw [if_pos e] at hx
    cases hx
    subst e
    exact h.2.2 _ List.mem_cons_self
  · rw [if_neg e] at hx
    refine h.2.2 (j, fl_cv w x) (List.mem_cons_of_mem _ (List.mem_filter.mpr ⟨(fl_as_mem w L 0 _).mpr ⟨j, x, by rw [Nat.zero_add], hx⟩, ?_⟩))
    simp only [Bool.and_eq_true, Bool.not_eq_true', beq_eq_false_iff_ne, ne_eq, Bool.and_eq_false_iff]
    refine ⟨e, e1, ?_⟩
    by_cases e2 : j + 1 = i
    · right
      subst e2
      rw [fl_cv_cat hw]
      intro hc
      have : fl_two (fl_get L j) = true := by rw [hx]; exact (fl_two_cat x).mpr hc
      simp [fl_nk, this] at hk
    · left; exact e2
theorem fl_args_at (w : fl_V) (hw : fl_fm w) : ∀ (as : List Value) (i j : Nat) (v : Value), fl_get (fl_args as) j = some v → (i + j, fl_cv w v) ∈ lv_args i (as.map (fl_cv w))
  | [], i, j, v, h => by cases h
  | x :: as, i, j, v, h => by
    have hc := fl_cv_cat hw x
    show _ ∈ (i, fl_cv w x) :: lv_args _ _
    unfold fl_args at h
    by_cases h2 : x.category = 2
    · have h3 : fl_two (some x) = true := (fl_two_cat x).mpr h2
      rw [h3] at h
      rw [hc, if_pos h2]
      match j, h with
      | 0, h => cases h; exact List.mem_cons_self
      | 1, h => cases h
      | j + 2, h =>
        have := fl_args_at w hw as (i + 2) j v h
        rw [show i + 2 + j = i + (j + 2) by omega] at this
        exact List.mem_cons_of_mem _ this
    · have h3 : fl_two (some x) = false := by
        cases hz : fl_two (some x) with
        | false => rfl
        | true => exact absurd ((fl_two_cat x).mp hz) h2
      rw [h3] at h
      rw [hc, if_neg h2]
      match j, h with
      | 0, h => cases h; exact List.mem_cons_self
      | j + 1, h =>
        have := fl_args_at w hw as (i + 1) j v h
        rw [show i + 1 + j = i + (j + 1) by omega] at this
        exact List.mem_cons_of_mem _ this
theorem fl_LR.entry {w : fl_V} (hw : fl_fm w) (as : List Value) {n : Nat} {ls : Array Slot} (h : lv_has ls n (lv_args 0 (as.map (fl_cv w)))) : fl_LR w ls n (fl_args as) := by
  refine ⟨h.1, h.2.1, fun j v hv => ?_⟩
  have := fl_args_at w hw as 0 j v hv
  rw [Nat.zero_add] at this
  exact h.2.2 _ this
theorem fl_cat_eq {w : fl_V} (hw : fl_fm w) : ∀ r : List Value, ((r.map (fl_cv w)).map fun v => v.category).sum = fl_cat r
  | [] => rfl
  | v :: r => by
    rw [List.map_cons, List.map_cons, List.sum_cons, fl_cat_eq hw r, fl_cv_cat hw]
    rw [show fl_cat (v :: r) = (match fl_two (some v) with | true => fl_cat r + 2 | false => fl_cat r + 1) from rfl]
    by_cases h2 : v.category = 2
    · rw [(fl_two_cat v).mpr h2, h2]; exact Nat.add_comm _ _
    · have h3 : fl_two (some v) = false := by
        cases hz : fl_two (some v) with
        | false => rfl
        | true => exact absurd ((fl_two_cat v).mp hz) h2
      rw [h3]
      have : v.category = 1 := (lv_cat v).resolve_right h2
      rw [this]; exact Nat.add_comm _ _
theorem fl_pop_eq : ∀ (n : Nat) (acc st as r : List Value), fl_pop n acc st = some (as, r) → ∃ l, as = l ++ acc ∧ l.length = n ∧ st = l.reverse ++ r
  | 0, acc, st, as, r, h => by cases h; exact ⟨[], rfl, rfl, rfl⟩
  | n + 1, acc, [], as, r, h => by cases h
  | n + 1, acc, v :: st, as, r, h => by
    obtain ⟨l, h1, h2, h3⟩ := fl_pop_eq n (v :: acc) st as r h
    exact ⟨l ++ [v], by rw [h1, List.append_assoc]; rfl, by rw [List.length_append, h2]; rfl, by rw [List.reverse_append, h3]; rfl⟩
