/-! THE WALK: what the abstract machine comes to, the machine comes to -/
theorem fl_grp_cases (ins : Instr) : fl_grp ins = 0 ∨ fl_grp ins = 1 ∨ fl_grp ins = 2 ∨ fl_grp ins = 3 ∨ fl_grp ins = 4 ∨ fl_grp ins = 5 ∨ fl_grp ins = 6 ∨ fl_grp ins = 7 ∨ fl_grp ins = 8 ∨ fl_grp ins = 9 := by
  cases ins <;> simp [fl_grp]
theorem fl_grp0 {ins : Instr} (h0 : fl_grp ins = 0) {len a b c d p pc : Nat} {x : Int32} {q : Int64} {sw : List (Int32 × Nat)} {lv : Option (List Bool)} {L : fl_L} {st : List Value} {h : fl_H} : fl_step (ins, len, a, b, c, d, p, x, q, sw, lv) pc L st h = none := by
  cases ins <;> first | rfl | (simp [fl_grp] at h0)
theorem fl_no9 (n : Nat) (as : List Value) (h : fl_H) : fl_ex fl_C n 9999 0 (fl_lb fl_C 9999 0 (fl_args as)) [] h = none := by
  cases n with
  | zero => rfl
  | succ n =>
    rw [fl_ex, show fl_C 9999 0 = none from rfl]
section FLW
variable {l : Launch} {D : va_G} {G : ClassId × ClassId × ClassId} {w : fl_V} {Ls : Nat} {xs : Nat → Int32}
theorem fl_walk (hokC : ∀ m pc e, fl_C m pc = some e → fl_ok m pc e = true) {p : Program} {e : Env} {R : Room} {s : State} {m : MethodId} {args : Array Value} {below : List Frame} {meth : Method} {c : Code} {Q : State → Prop} {k0 s0 mid : Nat} {o : fl_O}
    (hC : fl_Cx l D G w Ls xs mid p s m args meth c) (hRc : o.2.1.2.1 ≤ R.cells + k0) (hRs : o.2.1.2.2.1 ≤ R.slots + s0) (hRf : mid ≤ R.frames) (hRl : 64 * mid ≤ R.locals)
    (hcl : ∀ n a as h r, a < mid → fl_mok a = true → fl_cat as ≤ fl_mx a → fl_ex fl_C n a 0 (fl_lb fl_C a 0 (fl_args as)) [] h = some r → fl_Ct l D G w Ls xs a as h r)
    (hE : fl_End D G w Ls xs p l e R s m args below meth c Q k0 s0 mid o) (hT : fl_Thr D G w Ls xs p l e R s m args below meth c Q k0 s0 mid o) :
    ∀ (n pc : Nat) (L : fl_L) (st : List Value) (h : fl_H), fl_ex fl_C n mid pc L st h = some o → fl_Wd l D G w Ls xs p e R s m args below meth c Q k0 s0 mid pc L st h := by
  intro n
  induction n with
  | zero => intro pc L st h hx; cases hx
  | succ n ih =>
    intro pc L st h hx
    rw [fl_ex] at hx
    cases hc : fl_C mid pc with
    | none => rw [hc] at hx; cases hx
    | some e9 =>
      rw [hc] at hx
      dsimp only at hx
      have hok := hokC _ _ _ hc
      have nxt : ∀ pc L st h, (fun pc L st h => fl_ex fl_C n mid pc (fl_lb fl_C mid pc L) st h) pc L st h = some o → fl_Wd l D G w Ls xs p e R s m args below meth c Q k0 s0 mid pc L st h :=
        fun pc L st h hn H locs cells slots ls hR hS hq hc hs hL => ih pc _ st h hn H locs cells slots ls hR hS hq hc hs (hL.lb fl_C mid pc)
      have hmn : ∀ pc L st h, (fun pc L st h => fl_ex fl_C n mid pc (fl_lb fl_C mid pc L) st h) pc L st h = some o → h.1.2.1 ≤ o.2.1.2.1 ∧ h.1.2.2.1 ≤ o.2.1.2.2.1 :=
        fun pc L st h hn => ⟨(fl_ex_mn n mid pc _ st h o hn).1, (fl_ex_mn n mid pc _ st h o hn).2.1⟩
      obtain ⟨ins, len, a, b, c9, d9, p9, x9, q9, sw, lv⟩ := e9
      rcases fl_grp_cases ins with g | g | g | g | g | g | g | g | g | g
      · rw [fl_grp0 g] at hx; cases hx
      · exact fl_one1 hC nxt ins g hok hx
      · exact fl_one2 hC nxt hmn hRc hRs hE hT ins g hok hx
      · exact fl_one3 hC nxt hmn hRc hRs hRf hRl (fun a as h r ha hk hcat hr => hcl n a as h r ha hk hcat hr) (fun as h => fl_no9 n as h) ins g hok hx
      · exact fl_one4 hC nxt hmn hRc hRs hE hT ins g hok hx
      · exact fl_one5 hC nxt hmn hRc hRs hE hT ins g hok hx
      · exact fl_one6 hC nxt hmn hRc hRs hE hT ins g hok hx
      · exact fl_one7 hC nxt hmn hRc hRs hE hT ins g hok hx
      · exact fl_one8 hC nxt hmn hRc hRs hE hT ins g hok hx
      · exact fl_one9 hC nxt hmn hRc hRs hE hT ins g hok hx
theorem fl_sl_len (w : fl_V) (hw : fl_fm w) : ∀ as : List Value, (lg_sl (as.map (fl_cv w))).length = fl_cat as
  | [] => rfl
  | v :: as => by
    have ih := fl_sl_len w hw as
    have e : (lg_sl ((v :: as).map (fl_cv w))).length = (if (fl_cv w v).category = 2 then [Slot.val (fl_cv w v), Slot.second] else [Slot.val (fl_cv w v)]).length + (lg_sl (as.map (fl_cv w))).length := by
      unfold lg_sl
      rw [List.map_cons, List.flatMap_cons, List.length_append]
    rw [e, ih, fl_cv_cat hw]
    rw [show fl_cat (v :: as) = (match fl_two (some v) with | true => fl_cat as + 2 | false => fl_cat as + 1) from rfl]
    by_cases h2 : v.category = 2
    · rw [(fl_two_cat v).mpr h2, if_pos h2]; exact Nat.add_comm _ _
    · have h3 : fl_two (some v) = false := by
        cases hz : fl_two (some v) with
        | false => rfl
        | true => exact absurd ((fl_two_cat v).mp hz) h2
      rw [h3, if_neg h2]; exact Nat.add_comm _ _
/-- the context at a method's entry -/
theorem fl_enter {p : Program} {e : Env} {s s₁ : State} {m : MethodId} {args : Array Value} {below : List Frame} {meth : Method} {c : Code} {mid : Nat} {rm : Room} {as : List Value} {h : fl_H} (hl : l.stackTraces = false)
    (B : BodyLoose p l (fl_y mid) (headSpec (fl_wd mid) rm) (fl_bytes mid) (fl_mx mid) (fl_ret mid) e s m args below meth c s₁) (hml : c.maxLocals = fl_mx mid) (hP : fl_Pc D G w Ls xs as h args s) : fl_Cx l D G w Ls xs mid p s m args meth c := by
  have hts := atoms_spec (ws := fl_wd mid) B.pre
  refine ⟨B.exec, B.bytes, B.returns, hml, findClass_of_methodNamed B.named, fun x hx => hts x (List.mem_cons_of_mem _ hx), B.notSynchronized, fun z => (name_of_methodNamed B.named B.method).1.trans z, fun hh => ?_, hl, hP.2.2.1⟩
  exact vx_table (x := fl_y mid) B (hts (Cond.codeWith (fl_y mid) (fl_bytes mid) (fl_mx mid) (fl_ret mid) (fl_hh mid)) (by rw [fl_wd_cons hh]; exact List.mem_cons_self))
theorem fl_tab0 {p : Program} {e : Env} {s s₁ : State} {m : MethodId} {args : Array Value} {below : List Frame} {meth : Method} {c : Code} {mid : Nat} {rm : Room}
    (B : BodyLoose p l (fl_y mid) (headSpec (fl_wd mid) rm) (fl_bytes mid) (fl_mx mid) (fl_ret mid) e s m args below meth c s₁) : fl_hh mid = [] → c.exceptionTable.toList = [] := by
  intro hh
  have hts := atoms_spec (ws := fl_wd mid) B.pre
  obtain ⟨meth9, c9, h1, h2, -, -, -, -, h7, -⟩ := Cond.code_spec B.named (hts _ (by rw [fl_wd_nil hh]; exact List.mem_cons_self))
  cases Option.some.inj (h1.symm.trans B.method)
  cases Option.some.inj (h2.symm.trans (Stand.of_body B).code)
  rw [Array.isEmpty_iff.mp h7]
theorem fl_his {mid : Nat} {rm : Room} : ∀ (args : Array Value) (s : State) m, (headSpec (fl_wd mid) rm).pre.before args s = true → s.methodNamed? (fl_y mid) = some m → ∃ meth c, s.vm.method? m = some meth ∧ meth.code = some c ∧ c.code = fl_bytes mid ∧ c.maxLocals = fl_mx mid ∧ meth.sig.returnType = fl_ret mid ∧ meth.locks = false := by
  intro args s m h hn
  have hts := atoms_spec (ws := fl_wd mid) h
  by_cases hh : fl_hh mid = []
  · obtain ⟨meth, c, h1, h2, h3, h4, h5, h6, -, -⟩ := Cond.code_spec hn (hts _ (by rw [fl_wd_nil hh]; exact List.mem_cons_self))
    exact ⟨meth, c, h1, h2, h3, h4, h5, h6⟩
  · obtain ⟨m9, meth, c, hn9, h1, h2, h3, h4, -, h5, h6, -⟩ := Cond.codeWith_spec (hts (Cond.codeWith (fl_y mid) (fl_bytes mid) (fl_mx mid) (fl_ret mid) (fl_hh mid)) (by rw [fl_wd_cons hh]; exact List.mem_cons_self))
    cases hn.symm.trans hn9
    exact ⟨meth, c, h1, h2, h3, h4, h5, h6⟩
/-- from a method's entry to its end -/
theorem fl_body (hokC : ∀ m pc e, fl_C m pc = some e → fl_ok m pc e = true) (hl : l.stackTraces = false) {mid n : Nat} {as : List Value} {h : fl_H} {r : fl_O} (hcat : fl_cat as ≤ fl_mx mid) (hx : fl_ex fl_C n mid 0 (fl_lb fl_C mid 0 (fl_args as)) [] h = some r)
    (hcl : ∀ n a as h r, a < mid → fl_mok a = true → fl_cat as ≤ fl_mx a → fl_ex fl_C n a 0 (fl_lb fl_C a 0 (fl_args as)) [] h = some r → fl_Ct l D G w Ls xs a as h r)
    {p : Program} {e : Env} {R : Room} {s : State} {m : MethodId} {args : Array Value} {below : List Frame} {meth : Method} {c : Code} {Q : State → Prop} (hC : fl_Cx l D G w Ls xs mid p s m args meth c) (hP : fl_Pc D G w Ls xs as h args s)
    (hRc : r.2.1.2.1 ≤ R.cells + h.1.2.1) (hRs : r.2.1.2.2.1 ≤ R.slots + h.1.2.2.1) (hRf : mid ≤ R.frames) (hRl : 64 * mid ≤ R.locals)
    (hE : fl_End D G w Ls xs p l e R s m args below meth c Q h.1.2.1 h.1.2.2.1 mid r) (hT : fl_Thr D G w Ls xs p l e R s m args below meth c Q h.1.2.1 h.1.2.2.1 mid r) : W p l e R s m args below meth c s.heap [] 0 0 Q (entryFrame m args (fl_mx mid)) := by
  have hw : fl_fm w := hP.2.2.1.2.2.2.2.2.2.2.2.2.2.2
  have hl9 := lv_entry (as.map (fl_cv w)) (n := fl_mx mid) (by rw [fl_sl_len w hw]; exact hcat)
  rw [hP.1, lg_entry_eq]
  generalize (lg_sl (as.map (fl_cv w)) ++ List.replicate (fl_mx mid - (lg_sl (as.map (fl_cv w))).length) Slot.unset).toArray = ls at hl9 ⊢
  have hLR := (fl_LR.entry hw as hl9).lb fl_C mid 0
  rw [← hP.1]
  exact fl_walk hokC hC hRc hRs hRf hRl hcl hE hT n 0 _ [] h hx s.heap [] 0 0 ls hP.2.1 va_S.rf hP.2.2.2 (Nat.zero_add _) (Nat.zero_add _) hLR
theorem fl_R.th {h : fl_H} {H H1 : Heap} (hR : fl_R D G w Ls xs h H) (hk : ∀ q : Nat, q < H.size → H1[q]? = H[q]?) : fl_R D G w Ls xs (fl_th h) H1 := by
  obtain ⟨r1, r2, r3, r4, r5⟩ := hR
  have e9 : fl_ws G w (fl_th h) = fl_ws G w h := by
    unfold fl_ws
    exact List.map_congr_left (fun k _ => by rw [fl_cell_congr (h := h) (h' := fl_th h) rfl rfl rfl rfl])
  refine ⟨fun k q hq => ?_, fun (z : false = true) => Bool.noConfusion z, r3, r4, r5⟩
  rw [e9] at hq
  have := r1 k q hq
  exact this.kept (hk _ this.lt)
/-- a throw out of a method -/
theorem fl_throw (hl : l.stackTraces = false) {p : Program} {e : Env} {R : Room} {s : State} {m : MethodId} {args : Array Value} {below : List Frame} {meth : Method} {c : Code} {mid mc ms k0 s0 : Nat} {r : fl_O} {Qc : Array Value → State → Outcome → State → Prop}
    (hC : fl_Cx l D G w Ls xs mid p s m args meth c) (ht0 : fl_hh mid = [] → c.exceptionTable.toList = []) (hRf : mid ≤ R.frames) (hRl : 64 * mid ≤ R.locals) (hRc : R.cells = mc) (hRs : R.slots = ms) (hmc : r.2.1.2.1 = mc + k0) (hms : r.2.1.2.2.1 = ms + s0) :
    fl_Thr D G w Ls xs p l e R s m args below meth c (vx_MQ below Qc (fl_XC D G w Ls xs r) args s mc ms (fl_Af w)) k0 s0 mid r := by
  intro ik pc st h L hth hcat ho H locs cells slots ls hR hS hq hc hs hL
  obtain ⟨hx, hb, hr, hml, hown, hts, hlk, hnm, het, hst, hEX⟩ := id hC
  have hw : fl_fm w := hEX.2.2.2.2.2.2.2.2.2.2.2
  unfold fl_thok at hth
  split at hth
  · rename_i ic hd4
    simp only [Bool.and_eq_true, decide_eq_true_eq] at hth
    obtain ⟨⟨⟨⟨⟨⟨⟨d0, d3⟩, d7⟩, t1⟩, t2⟩, t3⟩, t4⟩, t5⟩ := hth
    have hcn : r.2.1.2.1 = h.1.2.1 + 1 := by rw [ho]; rfl
    have hsn : r.2.1.2.2.1 = h.1.2.2.1 + 6 := by rw [ho]; rfl
    have tx : ∀ x ∈ vx_at0 (fl_y mid).cls ic fl_nsee fl_names, fl_tx x = true := fun x hx => List.all_eq_true.mp t3 x hx
    have hxt : ∀ x, fl_tx x = true → x.before args s = true ∧ vx_ot x = true := by
      intro x hx
      simp only [fl_tx, Bool.and_eq_true, Bool.or_eq_true, decide_eq_true_eq] at hx
      obtain ⟨h1, h2⟩ := hx
      rcases h2 with h2 | ⟨h2, h3⟩
      · exact ⟨hts x (List.mem_filter.mpr ⟨h1, h2⟩), by unfold vx_ot; rw [h2]; exact Bool.or_true _⟩
      · exact ⟨va_Nw.use h2 (hEX.2.1.2 x h1 h3), by unfold vx_ot; rw [h2]; rfl⟩
    refine vx_throw0 (A := fl_Af w) (names := fl_names) (ic := ic) hx hb hl hown (by decide +kernel) (by decide +kernel) (hts _ (fl_tm_mem t1)) (hts _ (fl_tm_mem t2)) (fun x hx => (hxt x (tx x hx)).1) ?_ hEX.2.2.2.2.2.2.1 hEX.2.2.2.2.2.2.2.1 hS (hL.1.trans hml.symm) d0 d3 hd4 d7 ?_ ?_ ?_ (by omega) (by omega) hlk ?_ hS.2.2 (by omega) (by omega)
    · intro x hx
      rcases List.mem_cons.mp hx with e1 | hx
      · rw [e1]; unfold vx_ot; rw [(List.mem_filter.mp (fl_tm_mem t1)).2]; exact Bool.or_true _
      · rcases List.mem_cons.mp hx with e1 | hx
        · rw [e1]; unfold vx_ot; rw [(List.mem_filter.mp (fl_tm_mem t2)).2]; exact Bool.or_true _
        · exact (hxt x (tx x hx)).2
    · rw [ht0 t5]
      intro x hx
      cases hx
    · show 2 + 3 < R.frames
      omega
    · show ((st.map (fl_cv w)).map fun v => v.category).sum + (13 * (2 + 1) + 42) ≤ R.locals
      rw [fl_cat_eq hw]
      omega
    · intro t h1 h2 h3
      refine ⟨rfl, by rw [ho]; exact hR.th h3, Nat.le_trans hS.1 h2, fun q z1 z2 => ?_⟩
      rw [h3 q (Nat.lt_of_lt_of_le z1 hS.1)]
      exact hS.2.1 q z1 z2
  · cases hth
/-- a method's contract -/
theorem fl_met (hokC : ∀ m pc e, fl_C m pc = some e → fl_ok m pc e = true) (hl : l.stackTraces = false) {mid n : Nat} {as : List Value} {h : fl_H} {r : fl_O} (hmk : fl_mok mid = true) (hcat : fl_cat as ≤ fl_mx mid) (hx : fl_ex fl_C n mid 0 (fl_lb fl_C mid 0 (fl_args as)) [] h = some r)
    (hcl : ∀ n a as h r, a < mid → fl_mok a = true → fl_cat as ≤ fl_mx a → fl_ex fl_C n a 0 (fl_lb fl_C a 0 (fl_args as)) [] h = some r → fl_Ct l D G w Ls xs a as h r) : fl_Ct l D G w Ls xs mid as h r := by
  obtain ⟨c1, c2, c3⟩ := fl_ex_mn n mid 0 _ [] h r hx
  obtain ⟨m1, m2, m3, m4, m5⟩ := fl_mok_spec hmk
  refine ⟨c1, c2, c3, fun v hv => ?_, fun hv => ?_⟩
  · refine MetFree.of_bodySF (code := fl_bytes mid) (maxLocals := fl_mx mid) (ret := fl_ret mid) m5 fl_his ?_
    intro p e s m args below meth c s₁ B hml hP _
    have hh0 : s₁.heap = s.heap := by rw [B.state]; rfl
    have hC := fl_enter hl B hml hP
    obtain ⟨hx9, hb, hr, -, -, -, hlk, -, -, -, -⟩ := id hC
    have K : W p l e (headSpec (fl_wd mid) (fl_rm mid (r.2.1.2.1 - h.1.2.1) (r.2.1.2.2.1 - h.1.2.2.1))).room s m args below meth c s.heap [] 0 0 (MQ below (fl_Qc D G w Ls xs r) args s (r.2.1.2.1 - h.1.2.1) (r.2.1.2.2.1 - h.1.2.2.1) (fl_Af w)) (entryFrame m args (fl_mx mid)) := by
      refine fl_body hokC hl hcat hx hcl hC hP (by show _ ≤ (r.2.1.2.1 - h.1.2.1) + h.1.2.1; omega) (by show _ ≤ (r.2.1.2.2.1 - h.1.2.2.1) + h.1.2.2.1; omega) (Nat.le_refl _) (Nat.le_refl _) ?_ ?_
      · intro ins v9 pc H locs cells slots ls hd hrok ho hR hS hc hs
        have ec : cells = r.2.1.2.1 - h.1.2.1 := by omega
        have es : slots = r.2.1.2.2.1 - h.1.2.2.1 := by omega
        rw [← ec, ← es]
        have hq : ∀ (ov : Option Value) (t : State), v9.map (fl_cv w) = ov → t.heap = H → s.WarmedH t.vm → fl_Qc D G w Ls xs r args s (.returned ov) t := fun ov t e1 ht hW => ⟨⟨v9, ho, by rw [e1]⟩, by rw [ht]; exact hR, hS.F ht⟩
        cases ins
        case ireturn =>
          obtain ⟨x, ty, rfl, h1, h2⟩ := hrok
          exact W.zret hx9 hb (hr.trans h1) h2 (fun t => hq _ t rfl) hS.2.2 hd hlk
        case lreturn =>
          obtain ⟨x, rfl, h1⟩ := hrok
          exact W.lret hx9 hb (hr.trans h1) (fun t => hq _ t rfl) hS.2.2 hd hlk
        case return_ =>
          obtain ⟨rfl, h1⟩ := hrok
          exact W.vret hx9 hb (hr.trans h1) (fun t => hq _ t rfl) hS.2.2 hd hlk
        all_goals (exact False.elim hrok)
      · intro ik pc st h9 L hth hcat9 ho
        rw [ho] at hv
        cases hv
    obtain ⟨t, a1, o, b1, b2, b3⟩ := K s₁ hh0 (Stand.of_body B)
    exact ⟨t, o, a1, b1, b2, ⟨b3.1, b3.2⟩⟩
  · refine MetFree.of_bodySF (code := fl_bytes mid) (maxLocals := fl_mx mid) (ret := fl_ret mid) m5 fl_his ?_
    intro p e s m args below meth c s₁ B hml hP _
    have hh0 : s₁.heap = s.heap := by rw [B.state]; rfl
    have hC := fl_enter hl B hml hP
    have K : W p l e (headSpec (fl_wd mid) (fl_rm mid (r.2.1.2.1 - h.1.2.1) (r.2.1.2.2.1 - h.1.2.2.1))).room s m args below meth c s.heap [] 0 0 (vx_MQ below (fl_Qc D G w Ls xs r) (fl_XC D G w Ls xs r) args s (r.2.1.2.1 - h.1.2.1) (r.2.1.2.2.1 - h.1.2.2.1) (fl_Af w)) (entryFrame m args (fl_mx mid)) := by
      refine fl_body hokC hl hcat hx hcl hC hP (by show _ ≤ (r.2.1.2.1 - h.1.2.1) + h.1.2.1; omega) (by show _ ≤ (r.2.1.2.2.1 - h.1.2.2.1) + h.1.2.2.1; omega) (Nat.le_refl _) (Nat.le_refl _) ?_ (fl_throw hl hC (fl_tab0 B) (Nat.le_refl _) (Nat.le_refl _) rfl rfl (by omega) (by omega))
      intro ins v9 pc H locs cells slots ls hd hrok ho hR hS hc hs
      rw [hv] at ho
      cases ho
    obtain ⟨t, a1, o, b1, b2, b3⟩ := K s₁ hh0 (Stand.of_body B)
    exact ⟨t, o, a1, b1, b2, b3⟩
/-- every method's contract -/
theorem fl_all (hokC : ∀ m pc e, fl_C m pc = some e → fl_ok m pc e = true) (hl : l.stackTraces = false) : ∀ mid n as h r, fl_mok mid = true → fl_cat as ≤ fl_mx mid → fl_ex fl_C n mid 0 (fl_lb fl_C mid 0 (fl_args as)) [] h = some r → fl_Ct l D G w Ls xs mid as h r := by
  intro mid
  induction mid using Nat.strongRecOn with
  | ind mid ih =>
    intro n as h r hmk hcat hx
    exact fl_met hokC hl hmk hcat hx (fun n a as h r ha hk hc hx => ih a ha n as h r hk hc hx)
end FLW
