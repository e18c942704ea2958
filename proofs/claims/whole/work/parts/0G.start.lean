/-! THE CLAIM OUT OF ONE WALK OF THE LAW'S BODY. Your part is whole_start (and what it stands on); all else here is the same for every law, but numbers. -/
def R_law : String := "FaultListsLaw"
def lw_P (b : Addr) (xs : List Int32) (args : Array Value) (s : State) : Prop := args = #[.ref b] ∧ s.IntsAt b xs ∧ xs.length ≤ 1536 ∧ (Jvm.Cond.and given_1 narrow_1).before args s = true
def lw_Q (_ : Array Value) (s : State) (o : Outcome) (t : State) : Prop := o = .returned (some (.int 1)) ∧ Framed s o t [] 601024 7293034
def lw_Z (below : List Frame) (a : Array Value) (s : State) : State → Prop := fun t => ∃ o, t.status = .running ∧ Ended t below o ∧ lw_Q a s o t
/-- the law's own end, with 1 on the stack, nothing written that was there before, its room as the claim has it -/
theorem lw_ret {p : Program} {l : Launch} {e : Env} {s : State} {m : MethodId} {below : List Frame} {meth : Method} {c : Code} {b : Nat} (hx : p.tables.exec = Jvm.exec) (hb : c.code = code) (hr : meth.sig.returnType = ret) (hlocks : meth.locks = false) {pc : Nat} {H : Heap} {ls : Array Slot} (hdg : decode code pc = .ok (.ireturn, 1)) : W p l e room_1 s m #[Value.ref b] below meth c H [] 601024 7293034 (lw_Z below #[Value.ref b] s) (F0 m pc ls [.int 1]) := by
  intro T hT X
  obtain ⟨fs, hret, hrun, hended, hW, hframe⟩ := X.leave (v := some (.int 1)) (hlocks := hlocks) (fun h => by rw [hr] at h; cases h)
  have hmeth' : T.vm.method? m = some meth := X.method'
  refine ⟨T.setFrames fs, ?_, .returned (some (.int 1)), hrun, hended, rfl, ⟨_, rfl⟩, hW, hframe⟩
  jvm_step X.here [X.here.top, hx, hb, hdg, hmeth', hr, ret, narrow_b1]
  (try refine ⟨rfl, ?_⟩); (try refine ⟨rfl, ?_⟩)
  first | (intro acts; rw [hret _ acts rfl rfl rfl]) | rw [hret _ _ rfl rfl rfl]
  exact Steps.refl _
/-- what holds at the law's entry: the machine, the code, the tables' words (any of lw_tbl by 'hts w (by decide +kernel)'), the script of L ints xs at the cell b, what the Statement gives of the start (any of its parts by flat_of_before) -/
def lw_At (p : Program) (s : State) (m : MethodId) (meth : Method) (c : Code) (b L : Nat) (xs : Nat → Int32) : Prop :=
  p.tables.exec = Jvm.exec ∧ c.code = code ∧ meth.sig.returnType = ret ∧ c.maxLocals = 8 ∧ s.vm.findClass R_law = some m.cls ∧ (∀ w ∈ lw_tbl, w.before #[Value.ref b] s = true) ∧ va_X b L xs s s.heap ∧ b < s.heap.size ∧ meth.locks = false ∧ (Jvm.Cond.and given_1 narrow_1).before #[Value.ref b] s = true
/-- the heap at the law's entry -/
def fl_h0 (Ls : Nat) (xs : Nat → Int32) : fl_H := ((0, 0, 0, true), (fun k => if k < 1048576 then (0, 0) else if k < 1048583 then (7, k - 1048576) else if k < 1048592 then (0, 0) else if k < 1048599 then (5, fl_slen.getD (k - 1048592) 0) else if k = 1048608 then (6, Ls) else (0, 0)), (fun _ _ => none), (fun k j => if k = 1048608 then xs j else (fl_sbyt.getD (k - 1048592) []).getD j 0), (fun _ _ => 0))
theorem fl_h0_k (Ls : Nat) (xs : Nat → Int32) (k : Nat) : fl_k (fl_h0 Ls xs) k = if k < 1048576 then (0, 0) else if k < 1048583 then (7, k - 1048576) else if k < 1048592 then (0, 0) else if k < 1048599 then (5, fl_slen.getD (k - 1048592) 0) else if k = 1048608 then (6, Ls) else (0, 0) := rfl
theorem fl_h0_X (Ls : Nat) (xs : Nat → Int32) : fl_X Ls xs (fl_h0 Ls xs) := by
  intro k hk
  rw [fl_h0_k, if_neg (by omega)]
  by_cases h1 : k < 1048583
  · exact Or.inl ⟨h1, by rw [if_pos h1]⟩
  · rw [if_neg h1]
    by_cases h2 : k < 1048592
    · rw [if_pos h2]; exact Or.inr (Or.inr (Or.inr rfl))
    · rw [if_neg h2]
      by_cases h3 : k < 1048599
      · refine Or.inr (Or.inl ⟨by omega, h3, by rw [if_pos h3], ?_⟩)
        funext j
        show (if k = 1048608 then xs j else _) = _
        rw [if_neg (by omega)]
      · rw [if_neg h3]
        by_cases h4 : k = 1048608
        · refine Or.inr (Or.inr (Or.inl ⟨h4, by rw [if_pos h4], ?_⟩))
          funext j
          show (if k = 1048608 then xs j else _) = _
          rw [if_pos h4]
        · rw [if_neg h4]; exact Or.inr (Or.inr (Or.inr rfl))
theorem fl_h0_R {D : va_G} {G : ClassId × ClassId × ClassId} {w : fl_V} {Ls : Nat} {xs : Nat → Int32} {H : Heap} : fl_R D G w Ls xs (fl_h0 Ls xs) H := by
  refine ⟨fun k q hq => ?_, fun _ => rfl, fun k hk => ?_, Nat.zero_le _, fl_h0_X Ls xs⟩
  · have hq : (([] : va_W))[k]? = some q := hq
    cases hq
  · rw [fl_h0_k, if_pos hk]
    exact ⟨Nat.zero_lt_succ _, fun _ => rfl⟩
/-- the String constants' words -/
def fl_t9 (i : Nat) : Term := match i with
  | 0 => .string "FaultLists$Reader" 74
  | 1 => .string "FaultListsModel" 162
  | 2 => .string "FaultListsModel" 164
  | 3 => .string "FaultListsModel" 142
  | 4 => .string "FaultListsModel" 157
  | 5 => .string "FaultListsModel" 169
  | _ => .string "FaultListsModel" 239
def fl_fl : List Cond := flatC (Jvm.Cond.and given_1 narrow_1)
set_option maxRecDepth 20000 in
theorem fl_s1 : ∀ i, i < 7 → Cond.exactly (fl_t9 i) "java/lang/String" ∈ fl_fl := by decide +kernel
set_option maxRecDepth 20000 in
theorem fl_s2 : ∀ i, i < 7 → Cond.eq (.field (fl_t9 i) "java/lang/String" "coder" "B") (.int 0) ∈ fl_fl := by decide +kernel
set_option maxRecDepth 20000 in
theorem fl_s3 : ∀ i, i < 7 → Cond.arrayOf (.field (fl_t9 i) "java/lang/String" "value" "[B") .byte ∈ fl_fl := by decide +kernel
set_option maxRecDepth 20000 in
theorem fl_s4 : ∀ i, i < 7 → Cond.eq (.length (.field (fl_t9 i) "java/lang/String" "value" "[B")) (.int (Int32.ofNat (fl_slen.getD i 0))) ∈ fl_fl := by decide +kernel
set_option maxRecDepth 20000 in
theorem fl_s5 : ∀ i, i < 7 → ∀ j, j < fl_slen.getD i 0 → Cond.eq (.elem (.field (fl_t9 i) "java/lang/String" "value" "[B") (.int (Int32.ofNat j))) (.int ((fl_sbyt.getD i []).getD j 0)) ∈ fl_fl := by decide +kernel
set_option maxRecDepth 20000 in
theorem fl_s6 : ∀ i, i < 7 → ∀ j, j < 7 → i ≠ j → (Cond.not (Cond.eq (fl_t9 i) (fl_t9 j)) ∈ fl_fl ∨ Cond.not (Cond.eq (fl_t9 j) (fl_t9 i)) ∈ fl_fl) := by decide +kernel
theorem fl_eqr {args : Array Value} {s : State} {t1 t2 : Term} {a : Nat} (h : (Cond.eq t1 t2).before args s = true) (h1 : t1.eval args s none [] s = some (.ref a)) : t2.eval args s none [] s = some (.ref a) := by
  cases hv : t2.eval args s none [] s with
  | none => simp [Cond.before, Cond.holds, Cond.value, h1, hv] at h
  | some x =>
    simp only [Cond.before, Cond.holds, Cond.value, h1, hv] at h
    cases x <;> simp_all
theorem fl_w1 : ∀ i, i < 12 → Cond.instantiable (fl_cl0 i).1 (fl_cl0 i).2.2 ∈ lw_tbl := by decide +kernel
theorem fl_w2 : ∀ x ∈ fl_nest, Cond.methodLinkNest x.1 x.2.1 x.2.2.1 x.2.2.2 ∈ lw_tbl := by decide +kernel
theorem fl_w3 : ∀ x ∈ fl_strs, Cond.stringRef x.1 x.2.1 x.2.2.1 ∈ lw_tbl := by decide +kernel
theorem fl_arr {args : Array Value} {s : State} {ty : FieldType} (h : (Cond.arrayClass ty).before args s = true) (hty : ∀ C, ty ≠ .object C) : ∃ cA, ArrOfT s cA ty ∧ va_RA s cA ty := by
  obtain ⟨cA, k, comp, h1, h2, h3⟩ := Cond.arrayClass_spec h
  refine ⟨cA, fun n z => ⟨(fun k h => by cases h), k, h2, comp, h3⟩, ?_⟩
  cases ty with
  | object C => exact absurd rfl (hty C)
  | _ => exact h1
set_option maxHeartbeats 1000000 in
/-- what holds at the law's entry -/
theorem fl_entry {p : Program} {s : State} {m : MethodId} {meth : Method} {c : Code} {b L : Nat} {xs : Nat → Int32} (C0 : lw_At p s m meth c b L xs) : ∃ (D : va_G) (G : ClassId × ClassId × ClassId) (w : fl_V), fl_EX D G w L xs s s.heap ∧ w.1 = s.heap.size ∧ w.2.2.2.1 = b := by
  obtain ⟨hx, hb, hr, hml, hown, hts, hX, hbl, hlocks, hgv⟩ := id C0
  have hs : ∀ q ∈ fl_fl, q.before #[Value.ref b] s = true := flat_of_before _ hgv
  have hA : ∀ a : Nat, a < s.heap.size → ¬ (fun q : Nat => s.heap.size ≤ q) a := fun a h => Nat.not_le.mpr h
  have hcls : ∀ i : Nat, ∃ q : ClassId × (Nat → Nat), i < 12 → u_Kn s (fl_cl0 i).1 (fl_cl0 i).2.1 (fl_cl0 i).2.2 q.1 q.2 := by
    have key : ∀ i, i < 12 → ∃ q : ClassId × (Nat → Nat), u_Kn s (fl_cl0 i).1 (fl_cl0 i).2.1 (fl_cl0 i).2.2 q.1 q.2 := by
      intro i hi
      obtain ⟨-, -, -, e4, -⟩ := fl_cls i hi
      obtain ⟨cC, iS, h⟩ := u_known hts (fun x hx => (List.mem_filter.mp (e4 x hx)).1) (hts _ (fl_w1 i hi))
      exact ⟨(cC, iS), h⟩
    intro i
    by_cases hi : i < 12
    · obtain ⟨q, h⟩ := key i hi
      exact ⟨q, fun _ => h⟩
    · obtain ⟨q, -⟩ := key 0 (by decide)
      exact ⟨q, fun h => absurd h hi⟩
  obtain ⟨f, hf⟩ := Classical.axiomOfChoice hcls
  obtain ⟨g1, a1, b1⟩ := fl_arr (ty := .int) (hts _ (by decide +kernel)) (fun C h => by cases h)
  obtain ⟨g2, a2, b2⟩ := fl_arr (ty := .long) (hts _ (by decide +kernel)) (fun C h => by cases h)
  obtain ⟨g3, a3, b3⟩ := fl_arr (ty := .boolean) (hts _ (by decide +kernel)) (fun C h => by cases h)
  obtain ⟨adK, adV, hvs, hve⟩ := vk_Sof (N := 7) (tm := fl_t9) (len := fl_slen) (byt := fl_sbyt) (by decide +kernel) (fun i hi => hs _ (fl_s1 i hi)) (fun i hi => hs _ (fl_s2 i hi)) (fun i hi => hs _ (fl_s3 i hi)) (fun i hi => hs _ (fl_s4 i hi)) (fun i hi j hj => hs _ (fl_s5 i hi j hj))
    (fun i j hi hj hij => (fl_s6 i hi j hj hij).imp (hs _) (hs _)) hA
  have hz1 := va_Zof (C := "java/lang/String") (n := "COMPACT_STRINGS") (d := "Z") (v := .int 1) (hts _ (by decide +kernel)) (hts _ (by decide +kernel)) (va_eqi (hs _ (by decide +kernel))) hA
  have hz2 := va_Zqof (C := "jdk/internal/util/Preconditions") (n := "SIOOBE_FORMATTER") (d := "Ljava/util/function/BiFunction;") (hts _ (by decide +kernel)) (hts _ (by decide +kernel)) (hs _ (by decide +kernel)) hA
  have hz3 := vx_Zqof (C := Bundle.tN) (n := "UNASSIGNED_STACK") (d := Bundle.steD) (hts _ (by decide +kernel)) (hts _ (by decide +kernel)) (hs _ (by decide +kernel)) hA
  have hz4 := vx_Zqof (C := Bundle.tN) (n := "SUPPRESSED_SENTINEL") (d := Bundle.listD) (hts _ (by decide +kernel)) (hts _ (by decide +kernel)) (hs _ (by decide +kernel)) hA
  obtain ⟨fmt, hcat, hfmt⟩ : ∃ fmt : Value, fmt.category = 1 ∧ va_Z "jdk/internal/util/Preconditions" "SIOOBE_FORMATTER" "Ljava/util/function/BiFunction;" fmt (fun q : Nat => s.heap.size ≤ q) s s.heap := by
    rcases hz2 with h | ⟨t, h⟩
    · exact ⟨.null, rfl, h⟩
    · exact ⟨.ref t, rfl, h⟩
  refine ⟨(fun i => (f i).1, fun i => (f i).2), (g1, g2, g3), (s.heap.size, adK, adV, b, fmt), ⟨⟨fun k q hk => ?_, fun k q hk => ?_⟩, ⟨fun x hx => va_Nw.of rfl (hts _ (fl_w2 x hx)), fun q hq hk => ?_⟩, ?_, hvs, hz1, hfmt, hz3, hz4, hX, hbl, Nat.le_refl _, hcat⟩, rfl, rfl⟩
  · have h12 : k < 12 := (List.getElem?_eq_some_iff.mp hk).1
    obtain ⟨e1, -⟩ := fl_cls k h12
    cases Option.some.inj (hk.symm.trans e1)
    exact hf k h12
  · match k, hk with
    | 0, hk => cases hk; exact ⟨a1, b1⟩
    | 1, hk => cases hk; exact ⟨a2, b2⟩
    | 2, hk => cases hk; exact ⟨a3, b3⟩
    | k + 3, hk => simp at hk
  · have h9 : q.before #[] (s.setVm s.vm) = true := Cond.tabsOnly_warm (args' := #[]) (T := s) (State.WarmedH.refl s) q hk (hts q hq)
    rw [State.setVm_self] at h9
    exact h9
  · have ev : ∀ i, i < 7 → (fl_t9 i).eval #[Value.ref b] s none [] s = some (.ref (adK i)) := hve
    have e8 : (Term.string "FaultListsModel" 148).eval #[Value.ref b] s none [] s = some (.ref (adK 0)) := fl_eqr (t1 := fl_t9 0) (hs _ (by decide +kernel)) (ev 0 (by decide))
    have fin : ∀ x ∈ fl_strs, (Term.string x.1 x.2.1).eval #[Value.ref b] s none [] s = some (.ref (adK x.2.2.2)) → vk_R x.1 x.2.1 x.2.2.1 (adK x.2.2.2) s := fun x hx h => vk_R.of (hts _ (fl_w3 x hx)) h
    have all : ∀ x ∈ fl_strs, (Term.string x.1 x.2.1).eval #[Value.ref b] s none [] s = some (.ref (adK x.2.2.2)) := by
      refine List.forall_mem_cons.mpr ⟨ev 0 (by decide), List.forall_mem_cons.mpr ⟨ev 1 (by decide), List.forall_mem_cons.mpr ⟨ev 2 (by decide), List.forall_mem_cons.mpr ⟨e8, List.forall_mem_cons.mpr ⟨ev 3 (by decide), List.forall_mem_cons.mpr ⟨ev 4 (by decide), List.forall_mem_cons.mpr ⟨ev 5 (by decide), List.forall_mem_cons.mpr ⟨ev 6 (by decide), fun _ h => absurd h List.not_mem_nil⟩⟩⟩⟩⟩⟩⟩⟩
    exact fun x hx => fin x hx (all x hx)
theorem fl_265 : fl_bytes 265 = code ∧ fl_mx 265 = 8 ∧ fl_ret 265 = ret ∧ (fl_y 265).cls = R_law ∧ (fl_y 265).name ≠ "<init>" ∧ fl_hh 265 = [] := ⟨rfl, rfl, rfl, rfl, by decide +kernel, rfl⟩
set_option maxHeartbeats 1000000 in
/-- THE LAW comes to its end when the abstract machine does -/
theorem fl_start (hokC : ∀ m pc e, fl_C m pc = some e → fl_ok m pc e = true) {p : Program} {e : Env} {s : State} {m : MethodId} {below : List Frame} {meth : Method} {c : Code} (l : Launch) (hflags : l.flags = flags0) {b L : Nat} {xs : Nat → Int32} (C0 : lw_At p s m meth c b L xs)
    {n : Nat} {r : fl_O} (hrun : fl_ex fl_C n 265 0 (fl_lb fl_C 265 0 (fl_args [.ref 1048608])) [] (fl_h0 L xs) = some r) (h1 : r.1 = some (some (.int 1))) (h2 : r.2.1.2.1 ≤ 601024) (h3 : r.2.1.2.2.1 ≤ 7293034) : W p l e room_1 s m #[Value.ref b] below meth c s.heap [] 0 0 (lw_Z below #[Value.ref b] s) (entryFrame m ([Value.ref b] : List Value).toArray 8) := by
  obtain ⟨D, G, w, hEX, hw1, hw2⟩ := fl_entry C0
  obtain ⟨hx, hb, hr, hml, hown, hts, hX, hbl, hlocks, hgv⟩ := id C0
  obtain ⟨q1, q2, q3, q4, q5, q6⟩ := fl_265
  have hl : l.stackTraces = false := by
    unfold Launch.stackTraces
    rw [hflags]
    decide +kernel
  have hC : fl_Cx l D G w L xs 265 p s m #[Value.ref b] meth c := ⟨hx, by rw [q1]; exact hb, by rw [q3]; exact hr, by rw [q2]; exact hml, by rw [q4]; exact hown, fun x hx => hts x (List.mem_filter.mp hx).1, hlocks, fun z => absurd z q5, fun z => absurd q6 z, hl, hEX⟩
  have hP : fl_Pc D G w L xs [.ref 1048608] (fl_h0 L xs) #[Value.ref b] s := by
    refine ⟨?_, fl_h0_R, hEX, fun _ => by rw [hw1]; rfl⟩
    show #[Value.ref b] = #[Value.ref (fl_ad w 1048608)]
    have : fl_ad w 1048608 = b := by
      unfold fl_ad
      rw [if_neg (by decide), if_neg (by decide), if_neg (by decide), hw2]
    rw [this]
  have K := fl_body (R := room_1) (below := below) (e := e) (Q := lw_Z below #[Value.ref b] s) hokC hl (by rw [q2]; decide) hrun (fun n a as h r _ hk hc hx => fl_all hokC hl a n as h r hk hc hx) hC hP (by show _ ≤ 601024 + 0; omega) (by show _ ≤ 7293034 + 0; omega) (by show 265 ≤ 2048; decide) (by show 64 * 265 ≤ 84000; decide) (fun ins v9 pc H locs cells slots ls hd hrok ho hR hS hc hs => ?_) (fun ik pc st h9 L9 hth hcat9 ho => ?_)
  · rw [q2] at K
    exact K
  · cases Option.some.inj (h1.symm.trans ho)
    have hd9 : decode code pc = .ok (.ireturn, 1) := by
      rw [← q1]
      cases ins
      case ireturn => exact hd
      case lreturn => obtain ⟨x, hx9, -⟩ := hrok; cases hx9
      case return_ => obtain ⟨hx9, -⟩ := hrok; cases hx9
      all_goals (exact False.elim hrok)
    refine va_forget (fun q hq => by have := hS.2.2 q hq; rw [← hw1]; exact this) ?_
    have hc0 : cells + 0 = r.2.1.2.1 := hc
    have hs0 : slots + 0 = r.2.1.2.2.1 := hs
    refine W.widen (k := 601024) (n := 7293034) (by omega) (by omega) ?_
    exact lw_ret hx hb hr hlocks hd9
  · rw [ho] at h1
    cases h1
