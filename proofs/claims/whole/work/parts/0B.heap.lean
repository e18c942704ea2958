/-! ONE STEP of the abstract machine is a step of the machine: the heap, the ends -/
theorem fl_fget {w : fl_V} {h : fl_H} {k a b t : Nat} (ht : (fl_ft a)[b]? = some t) : (fl_fs w h k (fl_ft a) 0)[b]? = some (fl_fv w h k b t) := by
  rw [fl_fs_at, ht, Option.map_some, Nat.zero_add]
theorem fl_fset {w : fl_V} {h h' : fl_H} {k a b t : Nat} {v : Value} (ht : (fl_ft a)[b]? = some t) (hv : fl_fv w h' k b t = v) (ho : ∀ j u, j ≠ b → fl_fv w h' k j u = fl_fv w h k j u) : fl_fs w h' k (fl_ft a) 0 = (fl_fs w h k (fl_ft a) 0).set b v := by
  apply List.ext_getElem?
  intro j
  have hb := (List.getElem?_eq_some_iff.mp ht).1
  by_cases e : j = b
  · subst e
    rw [List.getElem?_set_self (by rw [fl_fs_len]; exact hb), fl_fget ht, hv]
  · rw [List.getElem?_set_ne (Ne.symm e), fl_fs_at, fl_fs_at]
    cases (fl_ft a)[j]? with
    | none => rfl
    | some u => rw [Option.map_some, Option.map_some, Nat.zero_add, ho j u e]
/-- the default of a kind of field -/
def fl_dv (t : Nat) : Value := match t with
  | 1 => .long 0
  | 2 => .null
  | _ => .int 0
theorem fl_cls2 : ∀ a, a < 12 → (List.range (fl_cl0 a).2.2).all (fun k => match parseFieldDescriptor ((fl_cl0 a).2.1 k).2.2.1, (fl_ft a)[k]? with
    | some ty, some t => decide (defaultValue ty = fl_dv t)
    | _, _ => false) = true := by decide +kernel
section FLH
variable {l : Launch} {D : va_G} {G : ClassId × ClassId × ClassId} {w : fl_V} {Ls : Nat} {xs : Nat → Int32} {p : Program} {e : Env} {R : Room} {s : State} {m : MethodId} {args : Array Value} {below : List Frame} {meth : Method} {c : Code} {Q : State → Prop} {k0 s0 mid pc : Nat} {L : fl_L} {st : List Value} {h : fl_H} {o : fl_O}
variable {nx : Nat → fl_L → List Value → fl_H → Option fl_O} {cl : Nat → List Value → fl_H → Option fl_O} {H : Heap} {locs : List Loc} {cells slots : Nat} {ls : Array Slot}
/-- a field of an object is read -/
theorem fl_getf (hC : fl_Cx l D G w Ls xs mid p s m args meth c) (hR : fl_R D G w Ls xs h H) {i k a b t p9 : Nat} {r : List Value} (hk : fl_k h k = (1, a)) (h1 : a < 12) (h2 : b < (fl_cl0 a).2.2) (h3 : (fl_ft a)[b]? = some t) (h4 : fl_t p9 (.fieldLink (fl_y mid).cls i ((fl_cl0 a).2.1 b).1 ((fl_cl0 a).2.1 b).2.1 ((fl_cl0 a).2.1 b).2.2.1) = true) (hd : decode (fl_bytes mid) pc = .ok (.getfield i, 3))
    (kk : W p l e R s m args below meth c H locs cells slots Q (F0 m (pc + 3) ls (fl_fv w h k b t :: r.map (fl_cv w)))) : W p l e R s m args below meth c H locs cells slots Q (F0 m pc ls ((Value.ref k :: r).map (fl_cv w))) := by
  obtain ⟨hx, hb, hr, hml, hown, hts, hlk, hnm, het, hst, hEX⟩ := id hC
  obtain ⟨e1, -, -, e4, -⟩ := fl_cls a h1
  have hkn : k < h.1.1 := hR.inner (by rw [hk]; exact Nat.one_ne_zero) (by rw [hk]; exact Nat.lt_of_sub_eq_succ rfl)
  refine W.eq (g2 := F0 m pc ls (.ref (w.1 + k) :: r.map (fl_cv w))) (by rw [List.map_cons]; show F0 m pc ls (Value.ref (fl_ad w k) :: _) = _; rw [hR.ad hkn]) ?_
  exact va_get hx hb hts e4 hown hEX.1 hR.1 k (by rw [fl_ws_at hkn, fl_cell_obj hk]) e1 b h2 (hts _ (fl_t_mem h4)) (fun _ z => z) (fl_fget h3) hd kk
set_option maxHeartbeats 1000000 in
/-- a field of an object is written -/
theorem fl_putf (hC : fl_Cx l D G w Ls xs mid p s m args meth c) (hR : fl_R D G w Ls xs h H) (hS : va_S (fl_Af w) s.heap H locs) {i k a b t p9 : Nat} {h' : fl_H} {v : Value} {ty : FieldType} {r : List Value} (hk : fl_k h k = (1, a)) (h1 : a < 12) (h2 : b < (fl_cl0 a).2.2) (h3 : (fl_ft a)[b]? = some t) (h4 : fl_t p9 (.fieldLink (fl_y mid).cls i ((fl_cl0 a).2.1 b).1 ((fl_cl0 a).2.1 b).2.1 ((fl_cl0 a).2.1 b).2.2.1) = true)
    (h5 : (match ((fl_cl0 a).2.1 b).2.2.2 with
      | true => decide ((fl_y mid).name = "<init>") && decide (((fl_cl0 a).2.1 b).1 = (fl_y mid).cls)
      | false => true) = true) (hty : parseFieldDescriptor ((fl_cl0 a).2.1 b).2.2.1 = some ty) (hn : narrow ty v = v) (hf : fits ty v = true) (hd : decode (fl_bytes mid) pc = .ok (.putfield i, 3))
    (g1 : h'.1 = h.1) (g2 : fl_k h' = fl_k h) (g3 : ∀ j, j ≠ k → fl_i h' j = fl_i h j) (g4 : ∀ j, j ≠ k → fl_l h' j = fl_l h j) (g5 : ∀ j, j ≠ k → fl_r h' j = fl_r h j) (g6 : fl_fv w h' k b t = v) (g7 : ∀ j u, j ≠ b → fl_fv w h' k j u = fl_fv w h k j u)
    (kk : ∀ (H1 : Heap) (locs1 : List Loc), fl_R D G w Ls xs h' H1 → va_S (fl_Af w) s.heap H1 locs1 → W p l e R s m args below meth c H1 locs1 cells slots Q (F0 m (pc + 3) ls (r.map (fl_cv w)))) : W p l e R s m args below meth c H locs cells slots Q (F0 m pc ls (v :: .ref (fl_ad w k) :: r.map (fl_cv w))) := by
  obtain ⟨hx, hb, hr, hml, hown, hts, hlk, hnm, het, hst, hEX⟩ := id hC
  obtain ⟨e1, ⟨ty0, e2⟩, e3, e4, e5⟩ := fl_cls a h1
  have hkn : k < h.1.1 := hR.inner (by rw [hk]; exact Nat.one_ne_zero) (by rw [hk]; exact Nat.lt_of_sub_eq_succ rfl)
  rw [hR.ad hkn]
  have hcell : fl_cell G w h' k = .inr (a, (fl_fs w h k (fl_ft a) 0).set b v) := by
    rw [fl_cell_obj (by rw [g2]; exact hk), fl_fset h3 g6 g7]
  have hl : b < (fl_fs w h k (fl_ft a) 0).length := by rw [fl_fs_len, e5]; exact h2
  cases hfin : ((fl_cl0 a).2.1 b).2.2.2 with
  | false =>
    refine va_put hx hb hts e4 ty0 e2 e3 hown hEX.1 hR.1 fl_ws_D hS k (by rw [fl_ws_at hkn, fl_cell_obj hk]) e1 b h2 (hts _ (fl_t_mem h4)) (fun _ z => z) hfin hty hn hf hl hd (fun H1 locs1 q1 q2 q3 => ?_)
    exact kk H1 locs1 (hR.upd hkn g1 g2 g3 g4 g5 hcell q1) q3
  | true =>
    rw [hfin] at h5
    simp only [Bool.and_eq_true, decide_eq_true_eq] at h5
    refine va_putF hx hb hts e4 ty0 e2 e3 hown hEX.1 hR.1 fl_ws_D hS k (by rw [fl_ws_at hkn, fl_cell_obj hk]) e1 b h2 (hts _ (fl_t_mem h4)) (fun _ z => z) hfin (hnm h5.1) h5.2 hty hn hf hl hd (fun H1 locs1 q1 q2 q3 => ?_)
    exact kk H1 locs1 (hR.upd hkn g1 g2 g3 g4 g5 hcell q1) q3
theorem fl_fv_si {w : fl_V} {h : fl_H} {k b : Nat} {v : Int32} {j u : Nat} (hj : j ≠ b) : fl_fv w (fl_si h k b v) k j u = fl_fv w h k j u := by
  unfold fl_fv
  split
  · rfl
  · rfl
  · show Value.int (fl_u h.2.2.2.1 k b v k j) = _
    rw [fl_u_self]; dsimp only; rw [if_neg hj]
    rfl
theorem fl_fv_sl {w : fl_V} {h : fl_H} {k b : Nat} {v : Int64} {j u : Nat} (hj : j ≠ b) : fl_fv w (fl_sl h k b v) k j u = fl_fv w h k j u := by
  unfold fl_fv
  split
  · show Value.long (fl_u h.2.2.2.2 k b v k j) = _
    rw [fl_u_self]; dsimp only; rw [if_neg hj]
    rfl
  · rfl
  · rfl
theorem fl_fv_sr {w : fl_V} {h : fl_H} {k b v : Nat} {j u : Nat} (hj : j ≠ b) : fl_fv w (fl_sr h k b v) k j u = fl_fv w h k j u := by
  unfold fl_fv
  split
  · rfl
  · have e : fl_r (fl_sr h k b v) k j = fl_r h k j := by
      show fl_u h.2.2.1 k b (some v) k j = _
      rw [fl_u_self]; dsimp only; rw [if_neg hj]
      rfl
    rw [e]
  · rfl
/-- an exact heap has just its cells -/
theorem fl_size (hEX : fl_EX D G w Ls xs s s.heap) (hR : fl_R D G w Ls xs h H) (hS : va_S (fl_Af w) s.heap H locs) (hq : h.1.2.2.2 = true → s.heap.size = w.1 + k0) (hc : cells + k0 = h.1.2.1) {T : State} (hT : T.heap = H) (X : Stand p l e R s m args below meth c T locs cells slots) (hx : h.1.2.2.2 = true) : H.size = w.1 + h.1.1 := by
  have h1 := X.heapSize
  rw [hT, hq hx] at h1
  have h2 := hR.2.1 hx
  have h3 : w.1 + h.1.1 ≤ H.size := by
    cases hn : h.1.1 with
    | zero => have := hS.1; rw [hq hx] at this; omega
    | succ n =>
      have := (hR.1 n _ (fl_ws_at (by omega))).lt
      have this : w.1 + n < H.size := this
      omega
  omega
/-- the ends: an answer; a throw -/
def fl_End (D : va_G) (G : ClassId × ClassId × ClassId) (w : fl_V) (Ls : Nat) (xs : Nat → Int32) (p : Program) (l : Launch) (e : Env) (R : Room) (s : State) (m : MethodId) (args : Array Value) (below : List Frame) (meth : Method) (c : Code) (Q : State → Prop) (k0 s0 mid : Nat) (o : fl_O) : Prop :=
  ∀ (ins : Instr) (v : Option Value) (pc : Nat) (H : Heap) (locs : List Loc) (cells slots : Nat) (ls : Array Slot), decode (fl_bytes mid) pc = .ok (ins, 1) → fl_rok mid v ins → o.1 = some v → fl_R D G w Ls xs o.2 H → va_S (fl_Af w) s.heap H locs → cells + k0 = o.2.1.2.1 → slots + s0 = o.2.1.2.2.1 → W p l e R s m args below meth c H locs cells slots Q (F0 m pc ls (v.toList.map (fl_cv w)))
def fl_Thr (D : va_G) (G : ClassId × ClassId × ClassId) (w : fl_V) (Ls : Nat) (xs : Nat → Int32) (p : Program) (l : Launch) (e : Env) (R : Room) (s : State) (m : MethodId) (args : Array Value) (below : List Frame) (meth : Method) (c : Code) (Q : State → Prop) (k0 s0 mid : Nat) (o : fl_O) : Prop :=
  ∀ (ik pc : Nat) (st : List Value) (h : fl_H) (L : fl_L), fl_thok mid pc ik = true → fl_cat st ≤ 8 → o = (none, fl_th h) → fl_Wd l D G w Ls xs p e R s m args below meth c Q k0 s0 mid pc L st h
theorem fl_b01_ok {v : Int32} (h : fl_b01 v = true) : narrow .boolean (.int v) = .int v ∧ fits .boolean (.int v) = true ∧ vp_nar .boolean v = v := by
  simp only [fl_b01, Bool.or_eq_true, decide_eq_true_eq] at h
  rcases h with rfl | rfl
  · exact ⟨rfl, rfl, rfl⟩
  · exact ⟨rfl, rfl, rfl⟩
theorem fl_mk_lt {h : fl_H} {kd : Nat × Nat} {n j : Nat} (hj : j ≠ h.1.1) : fl_k (fl_mk h kd n) j = fl_k h j ∧ fl_i (fl_mk h kd n) j = fl_i h j ∧ fl_l (fl_mk h kd n) j = fl_l h j ∧ fl_r (fl_mk h kd n) j = fl_r h j := by
  refine ⟨?_, ?_, ?_, ?_⟩
  · show (if j = h.1.1 then kd else h.2.1 j) = _
    rw [if_neg hj]; rfl
  · funext i
    show (if j = h.1.1 then 0 else h.2.2.2.1 j i) = _
    rw [if_neg hj]; rfl
  · funext i
    show (if j = h.1.1 then 0 else h.2.2.2.2 j i) = _
    rw [if_neg hj]; rfl
  · funext i
    show (if j = h.1.1 then none else h.2.2.1 j i) = _
    rw [if_neg hj]; rfl
theorem fl_mk_eq {h : fl_H} {kd : Nat × Nat} {n : Nat} : fl_k (fl_mk h kd n) h.1.1 = kd ∧ fl_i (fl_mk h kd n) h.1.1 = (fun _ => 0) ∧ fl_l (fl_mk h kd n) h.1.1 = (fun _ => 0) ∧ fl_r (fl_mk h kd n) h.1.1 = (fun _ => none) := by
  refine ⟨?_, ?_, ?_, ?_⟩
  · show (if h.1.1 = h.1.1 then kd else h.2.1 h.1.1) = _
    rw [if_pos rfl]
  · funext i
    show (if h.1.1 = h.1.1 then 0 else h.2.2.2.1 h.1.1 i) = _
    rw [if_pos rfl]
  · funext i
    show (if h.1.1 = h.1.1 then 0 else h.2.2.2.2 h.1.1 i) = _
    rw [if_pos rfl]
  · funext i
    show (if h.1.1 = h.1.1 then none else h.2.2.1 h.1.1 i) = _
    rw [if_pos rfl]
/-- a cell more -/
theorem fl_R.mk {h : fl_H} {H H1 : Heap} {kd : Nat × Nat} {n : Nat} {c : va_E} (hR : fl_R D G w Ls xs h H) (h1 : 0 < kd.1) (h2 : kd.1 < 5) (hn : h.1.1 < 1000000) (hz : H.size = w.1 + h.1.1) (hc : fl_cell G w (fl_mk h kd n) h.1.1 = c) (hk : ∀ q, q < H.size → H1[q]? = H[q]?) (ha : va_at D vwCl (w.1 + h.1.1, c) H1) : fl_R D G w Ls xs (fl_mk h kd n) H1 := by
  obtain ⟨r1, r2, r3, r4, r5⟩ := hR
  refine ⟨fun k q hq => ?_, fun hx => ?_, fun k hk => ?_, ?_, fun k hk => ?_⟩
  · obtain ⟨e1, e2⟩ := fl_ws_of hq
    rw [e2]
    have e1 : k < h.1.1 + 1 := e1
    by_cases e : k = h.1.1
    · subst e
      rw [hc]; exact ha
    · obtain ⟨f1, f2, f3, f4⟩ := fl_mk_lt (kd := kd) (n := n) e
      rw [fl_cell_congr f1 f2 f3 f4]
      have := r1 k _ (fl_ws_at (by omega))
      exact this.kept (hk _ this.lt)
  · show h.1.1 + 1 = h.1.2.1 + 1
    rw [r2 hx]
  · by_cases e : k = h.1.1
    · subst e
      rw [fl_mk_eq.1]
      exact ⟨h2, fun z => absurd z (by show ¬ h.1.1 + 1 ≤ h.1.1; omega)⟩
    · rw [(fl_mk_lt e).1]
      exact ⟨(r3 k hk).1, fun z => (r3 k hk).2 (by have z : h.1.1 + 1 ≤ k := z; omega)⟩
  · show h.1.1 + 1 ≤ 1048576
    omega
  · obtain ⟨f1, f2, -, -⟩ := fl_mk_lt (h := h) (kd := kd) (n := n) (j := k) (by omega)
    rw [f1, f2]
    exact r5 k hk
end FLH
