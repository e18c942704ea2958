/-! ONE STEP of the abstract machine is a step of the machine: all instructions but calls (printed by wip/whole/gensteps.py) -/
theorem fl_phi_nx {nx : Nat → fl_L → List Value → fl_H → Option fl_O} {cl : Nat → List Value → fl_H → Option fl_O} {pc : Nat} {L : fl_L} {st : List Value} {h : fl_H} {o : fl_O} (q : fl_phi nx cl (fl_nx pc L st h) = some o) : nx pc L st h = some o := q
theorem fl_phi_ng {nx : Nat → fl_L → List Value → fl_H → Option fl_O} {cl : Nat → List Value → fl_H → Option fl_O} {g : Bool} {pc : Nat} {L : fl_L} {st : List Value} {h : fl_H} {o : fl_O} (q : fl_phi nx cl (fl_ng g pc L st h) = some o) : g = true ∧ nx pc L st h = some o := by
  cases g
  · cases q
  · exact ⟨rfl, q⟩
theorem fl_phi_dn {nx : Nat → fl_L → List Value → fl_H → Option fl_O} {cl : Nat → List Value → fl_H → Option fl_O} {g : Bool} {r : Option (Option Value)} {h : fl_H} {o : fl_O} (q : fl_phi nx cl (fl_dn g r h) = some o) : g = true ∧ (r, h) = o := by
  cases g
  · cases q
  · exact ⟨rfl, Option.some.inj q⟩
theorem fl_phi_br {nx : Nat → fl_L → List Value → fl_H → Option fl_O} {cl : Nat → List Value → fl_H → Option fl_O} {b : Bool} {t f : Nat} {L : fl_L} {st : List Value} {h : fl_H} {o : fl_O} (q : fl_phi nx cl (fl_br b t f L st h) = some o) : (b = true → nx t L st h = some o) ∧ (b = false → nx f L st h = some o) := by
  cases b
  · exact ⟨(fun e => nomatch e), fun _ => q⟩
  · exact ⟨fun _ => q, (fun e => nomatch e)⟩
theorem fl_ii_inv {st : List Value} {k : Int32 → Int32 → List Value → Option (Bool × fl_A)} {z : Option (Bool × fl_A) → Prop} (hz : ¬ z none) (q : z (fl_ii st k)) : ∃ (x y : Int32) (r : List Value), st = .int y :: .int x :: r ∧ z (k x y r) := by
  unfold fl_ii at q
  split at q
  · exact ⟨_, _, _, rfl, q⟩
  · exact absurd q hz
theorem fl_ll_inv {st : List Value} {k : Int64 → Int64 → List Value → Option (Bool × fl_A)} {z : Option (Bool × fl_A) → Prop} (hz : ¬ z none) (q : z (fl_ll st k)) : ∃ (x y : Int64) (r : List Value), st = .long y :: .long x :: r ∧ z (k x y r) := by
  unfold fl_ll at q
  split at q
  · exact ⟨_, _, _, rfl, q⟩
  · exact absurd q hz
theorem fl_li_inv {st : List Value} {k : Int64 → Int32 → List Value → Option (Bool × fl_A)} {z : Option (Bool × fl_A) → Prop} (hz : ¬ z none) (q : z (fl_li st k)) : ∃ (x : Int64) (y : Int32) (r : List Value), st = .int y :: .long x :: r ∧ z (k x y r) := by
  unfold fl_li at q
  split at q
  · exact ⟨_, _, _, rfl, q⟩
  · exact absurd q hz
theorem fl_i1_inv {st : List Value} {k : Int32 → List Value → Option (Bool × fl_A)} {z : Option (Bool × fl_A) → Prop} (hz : ¬ z none) (q : z (fl_i1 st k)) : ∃ (x : Int32) (r : List Value), st = .int x :: r ∧ z (k x r) := by
  unfold fl_i1 at q
  split at q
  · exact ⟨_, _, rfl, q⟩
  · exact absurd q hz
theorem fl_l1_inv {st : List Value} {k : Int64 → List Value → Option (Bool × fl_A)} {z : Option (Bool × fl_A) → Prop} (hz : ¬ z none) (q : z (fl_l1 st k)) : ∃ (x : Int64) (r : List Value), st = .long x :: r ∧ z (k x r) := by
  unfold fl_l1 at q
  split at q
  · exact ⟨_, _, rfl, q⟩
  · exact absurd q hz
theorem fl_r1_inv {st : List Value} {k : Nat → List Value → Option (Bool × fl_A)} {z : Option (Bool × fl_A) → Prop} (hz : ¬ z none) (q : z (fl_r1 st k)) : ∃ (x : Nat) (r : List Value), st = .ref x :: r ∧ z (k x r) := by
  unfold fl_r1 at q
  split at q
  · exact ⟨_, _, rfl, q⟩
  · exact absurd q hz
theorem fl_ri_inv {st : List Value} {k : Nat → Int32 → List Value → Option (Bool × fl_A)} {z : Option (Bool × fl_A) → Prop} (hz : ¬ z none) (q : z (fl_ri st k)) : ∃ (x : Nat) (i : Int32) (r : List Value), st = .int i :: .ref x :: r ∧ z (k x i r) := by
  unfold fl_ri at q
  split at q
  · exact ⟨_, _, _, rfl, q⟩
  · exact absurd q hz
theorem fl_rii_inv {st : List Value} {k : Nat → Int32 → Int32 → List Value → Option (Bool × fl_A)} {z : Option (Bool × fl_A) → Prop} (hz : ¬ z none) (q : z (fl_rii st k)) : ∃ (x : Nat) (i v : Int32) (r : List Value), st = .int v :: .int i :: .ref x :: r ∧ z (k x i v r) := by
  unfold fl_rii at q
  split at q
  · exact ⟨_, _, _, _, rfl, q⟩
  · exact absurd q hz
theorem fl_ril_inv {st : List Value} {k : Nat → Int32 → Int64 → List Value → Option (Bool × fl_A)} {z : Option (Bool × fl_A) → Prop} (hz : ¬ z none) (q : z (fl_ril st k)) : ∃ (x : Nat) (i : Int32) (v : Int64) (r : List Value), st = .long v :: .int i :: .ref x :: r ∧ z (k x i v r) := by
  unfold fl_ril at q
  split at q
  · exact ⟨_, _, _, _, rfl, q⟩
  · exact absurd q hz
theorem fl_rl_inv {st : List Value} {k : Nat → Int64 → List Value → Option (Bool × fl_A)} {z : Option (Bool × fl_A) → Prop} (hz : ¬ z none) (q : z (fl_rl st k)) : ∃ (x : Nat) (v : Int64) (r : List Value), st = .long v :: .ref x :: r ∧ z (k x v r) := by
  unfold fl_rl at q
  split at q
  · exact ⟨_, _, _, rfl, q⟩
  · exact absurd q hz
theorem fl_rr_inv {st : List Value} {k : Nat → Nat → List Value → Option (Bool × fl_A)} {z : Option (Bool × fl_A) → Prop} (hz : ¬ z none) (q : z (fl_rr st k)) : ∃ (x v : Nat) (r : List Value), st = .ref v :: .ref x :: r ∧ z (k x v r) := by
  unfold fl_rr at q
  split at q
  · exact ⟨_, _, _, rfl, q⟩
  · exact absurd q hz
theorem fl_iv_inv {L : fl_L} {a : Nat} {k : Int32 → Option (Bool × fl_A)} {z : Option (Bool × fl_A) → Prop} (hz : ¬ z none) (q : z (fl_iv L a k)) : ∃ v : Int32, fl_get L a = some (.int v) ∧ z (k v) := by
  unfold fl_iv at q
  split at q
  · rename_i v e; exact ⟨v, e, q⟩
  · exact absurd q hz
theorem fl_lv_inv {L : fl_L} {a : Nat} {k : Int64 → Option (Bool × fl_A)} {z : Option (Bool × fl_A) → Prop} (hz : ¬ z none) (q : z (fl_lv L a k)) : ∃ v : Int64, fl_get L a = some (.long v) ∧ z (k v) := by
  unfold fl_lv at q
  split at q
  · rename_i v e; exact ⟨v, e, q⟩
  · exact absurd q hz
theorem fl_rv_inv {L : fl_L} {a : Nat} {k : Nat → Option (Bool × fl_A)} {z : Option (Bool × fl_A) → Prop} (hz : ¬ z none) (q : z (fl_rv L a k)) : ∃ v : Nat, fl_get L a = some (.ref v) ∧ z (k v) := by
  unfold fl_rv at q
  split at q
  · rename_i v e; exact ⟨v, e, q⟩
  · exact absurd q hz
theorem fl_in_vp {i : Int32} {n : Nat} (h : fl_in i n = true) : vp_in i n := by
  simp only [fl_in, Bool.not_eq_true', Bool.or_eq_false_iff, decide_eq_false_iff_not] at h
  exact fun z => z.elim h.1 h.2
/-- what holds in a frame of method mid -/
def fl_Cx (l : Launch) (D : va_G) (G : ClassId × ClassId × ClassId) (w : fl_V) (Ls : Nat) (xs : Nat → Int32) (mid : Nat) (p : Program) (s : State) (m : MethodId) (args : Array Value) (meth : Method) (c : Code) : Prop :=
  p.tables.exec = Jvm.exec ∧ c.code = fl_bytes mid ∧ meth.sig.returnType = fl_ret mid ∧ c.maxLocals = fl_mx mid ∧ s.vm.findClass (fl_y mid).cls = some m.cls ∧ (∀ x ∈ fl_T, x.before args s = true) ∧ meth.locks = false ∧ ((fl_y mid).name = "<init>" → meth.name = "<init>") ∧ (fl_hh mid ≠ [] → c.exceptionTable.toList = tableOf (fl_hh mid)) ∧ l.stackTraces = false ∧ fl_EX D G w Ls xs s s.heap
/-- from here the machine comes to Q -/
def fl_Wd (l : Launch) (D : va_G) (G : ClassId × ClassId × ClassId) (w : fl_V) (Ls : Nat) (xs : Nat → Int32) (p : Program) (e : Env) (R : Room) (s : State) (m : MethodId) (args : Array Value) (below : List Frame) (meth : Method) (c : Code) (Q : State → Prop) (k0 s0 mid pc : Nat) (L : fl_L) (st : List Value) (h : fl_H) : Prop :=
  ∀ (H : Heap) (locs : List Loc) (cells slots : Nat) (ls : Array Slot), fl_R D G w Ls xs h H → va_S (fl_Af w) s.heap H locs → (h.1.2.2.2 = true → s.heap.size = w.1 + k0) → cells + k0 = h.1.2.1 → slots + s0 = h.1.2.2.1 → fl_LR w ls (fl_mx mid) L → W p l e R s m args below meth c H locs cells slots Q (F0 m pc ls (st.map (fl_cv w)))
/-- an answer that fits its method's type -/
def fl_rok (mid : Nat) (v : Option Value) : Instr → Prop
  | .ireturn => ∃ x ty, v = some (.int x) ∧ fl_ret mid = some ty ∧ narrow ty (.int x) = .int x
  | .lreturn => ∃ x, v = some (.long x) ∧ fl_ret mid = some .long
  | .return_ => v = none ∧ fl_ret mid = none
  | _ => False
theorem fl_fit_ok {c : Nat} {x : Int32} (h : fl_fit c x = true) : (c = 0) ∨ (c = 3 ∧ narrow .boolean (.int x) = .int x) ∨ (c = 4 ∧ narrow .char (.int x) = .int x) ∨ (c = 5 ∧ narrow .byte (.int x) = .int x) := by
  unfold fl_fit at h
  split at h
  · exact Or.inl rfl
  · right; left
    simp only [fl_b01, Bool.or_eq_true, decide_eq_true_eq] at h
    rcases h with rfl | rfl
    · exact ⟨rfl, rfl⟩
    · exact ⟨rfl, rfl⟩
  · right; right; left
    refine ⟨rfl, ?_⟩
    have e : (x.toUInt32 % 65536).toInt32 = x := of_decide_eq_true h
    rw [← e]
    exact pk_nc x
  · right; right; right
    refine ⟨rfl, ?_⟩
    have e : x.toInt8.toInt32 = x := of_decide_eq_true h
    show Value.int x.toInt8.toInt32 = _
    rw [e]
  · cases h
/-- the classes -/
theorem fl_cls : ∀ a, a < 12 → vwCl[a]? = some (fl_cl0 a) ∧ (∃ ty : Nat → FieldType, ∀ k, k < (fl_cl0 a).2.2 → parseFieldDescriptor ((fl_cl0 a).2.1 k).2.2.1 = some (ty k)) ∧ (∀ x, x < (fl_cl0 a).2.2 → ∀ y, y < (fl_cl0 a).2.2 → x ≠ y → ((fl_cl0 a).2.1 x).2.1 ≠ ((fl_cl0 a).2.1 y).2.1) ∧ (∀ x ∈ u_ws (fl_cl0 a).1 (fl_cl0 a).2.1 (fl_cl0 a).2.2, x ∈ fl_T) ∧ (fl_ft a).length = (fl_cl0 a).2.2
  | 0, _ => ⟨rfl, ⟨tyX0, tyX0_ok⟩, nmX0, fun x hx => (fun (z : ∀ x ∈ wsX00, x ∈ tables_1 ∧ goodWord x = true) => fl_T_of (z x hx).1 (z x hx).2) (by decide +kernel), rfl⟩
  | 1, _ => ⟨rfl, ⟨tyX1, tyX1_ok⟩, nmX1, fun x hx => (fun (z : ∀ x ∈ wsX10, x ∈ tables_1 ∧ goodWord x = true) => fl_T_of (z x hx).1 (z x hx).2) (by decide +kernel), rfl⟩
  | 2, _ => ⟨rfl, ⟨tyX2, tyX2_ok⟩, nmX2, fun x hx => (fun (z : ∀ x ∈ wsX20, x ∈ tables_1 ∧ goodWord x = true) => fl_T_of (z x hx).1 (z x hx).2) (by decide +kernel), rfl⟩
  | 3, _ => ⟨rfl, ⟨tyX3, tyX3_ok⟩, nmX3, fun x hx => (fun (z : ∀ x ∈ wsX30, x ∈ tables_1 ∧ goodWord x = true) => fl_T_of (z x hx).1 (z x hx).2) (by decide +kernel), rfl⟩
  | 4, _ => ⟨rfl, ⟨tyX4, tyX4_ok⟩, nmX4, fun x hx => (fun (z : ∀ x ∈ wsX40, x ∈ tables_1 ∧ goodWord x = true) => fl_T_of (z x hx).1 (z x hx).2) (by decide +kernel), rfl⟩
  | 5, _ => ⟨rfl, ⟨tyX5, tyX5_ok⟩, nmX5, fun x hx => (fun (z : ∀ x ∈ wsX50, x ∈ tables_1 ∧ goodWord x = true) => fl_T_of (z x hx).1 (z x hx).2) (by decide +kernel), rfl⟩
  | 6, _ => ⟨rfl, ⟨tyX6, tyX6_ok⟩, nmX6, fun x hx => (fun (z : ∀ x ∈ wsX60, x ∈ tables_1 ∧ goodWord x = true) => fl_T_of (z x hx).1 (z x hx).2) (by decide +kernel), rfl⟩
  | 7, _ => ⟨rfl, ⟨tyX7, tyX7_ok⟩, nmX7, fun x hx => (fun (z : ∀ x ∈ wsX70, x ∈ tables_1 ∧ goodWord x = true) => fl_T_of (z x hx).1 (z x hx).2) (by decide +kernel), rfl⟩
  | 8, _ => ⟨rfl, ⟨tyX8, tyX8_ok⟩, nmX8, fun x hx => (fun (z : ∀ x ∈ wsX80, x ∈ tables_1 ∧ goodWord x = true) => fl_T_of (z x hx).1 (z x hx).2) (by decide +kernel), rfl⟩
  | 9, _ => ⟨rfl, ⟨tyX9, tyX9_ok⟩, nmX9, fun x hx => (fun (z : ∀ x ∈ wsX90, x ∈ tables_1 ∧ goodWord x = true) => fl_T_of (z x hx).1 (z x hx).2) (by decide +kernel), rfl⟩
  | 10, _ => ⟨rfl, ⟨tyX10, tyX10_ok⟩, nmX10, fun x hx => (fun (z : ∀ x ∈ wsX100, x ∈ tables_1 ∧ goodWord x = true) => fl_T_of (z x hx).1 (z x hx).2) (by decide +kernel), rfl⟩
  | 11, _ => ⟨rfl, ⟨tyX11, tyX11_ok⟩, nmX11, fun x hx => (fun (z : ∀ x ∈ wsX110, x ∈ tables_1 ∧ goodWord x = true) => fl_T_of (z x hx).1 (z x hx).2) (by decide +kernel), rfl⟩
  | a + 12, h => absurd h (by omega)
def fl_grp : Instr → Nat
  | .iconst _ => 1
  | .bipush _ => 1
  | .sipush _ => 1
  | .lconst _ => 1
  | .ldc_w _ => 1
  | .ldc2_w _ => 1
  | .ldc _ => 1
  | .iload _ => 1
  | .iload_n _ => 1
  | .lload _ => 1
  | .lload_n _ => 1
  | .aload _ => 1
  | .aload_n _ => 1
  | .istore _ => 1
  | .istore_n _ => 1
  | .lstore _ => 1
  | .lstore_n _ => 1
  | .astore _ => 1
  | .astore_n _ => 1
  | .iinc _ _ => 1
  | .iadd => 1
  | .isub => 1
  | .imul => 1
  | .iand => 1
  | .ior => 1
  | .ixor => 1
  | .ishl => 1
  | .ishr => 1
  | .iushr => 1
  | .idiv => 1
  | .irem => 1
  | .ladd => 1
  | .lsub => 1
  | .land => 1
  | .lor => 1
  | .lxor => 1
  | .lcmp => 1
  | .lshl => 1
  | .lshr => 1
  | .lushr => 1
  | .i2l => 1
  | .i2c => 1
  | .i2b => 1
  | .l2i => 1
  | .ifCond _ _ => 1
  | .if_icmp _ _ => 1
  | .goto _ => 1
  | .tableswitch _ _ _ _ => 1
  | .lookupswitch _ _ => 1
  | .dup => 1
  | .dup2 => 1
  | .pop => 1
  | .getfield _ => 2
  | .putfield _ => 4
  | .getstatic _ => 2
  | .arraylength => 5
  | .iaload => 5
  | .baload => 5
  | .laload => 5
  | .iastore => 6
  | .bastore => 6
  | .lastore => 6
  | .new _ => 7
  | .newarray _ => 8
  | .ireturn => 9
  | .lreturn => 9
  | .return_ => 9
  | .invokestatic _ => 3
  | .invokevirtual _ => 3
  | .invokespecial _ => 3
  | _ => 0
theorem fl_sws_spec {β : Type} {x : Int32} {k : Nat → β} {d pc : Nat} : ∀ (os : List Int) (lo : Int) (sw : List (Int32 × Nat)), fl_sws pc lo os sw = true →
    ((x.toInt < lo ∨ lo + os.length ≤ x.toInt) ∧ fl_swi x k d sw = k d) ∨ ∃ (i : Nat) (of : Int) (t : Nat), os[i]? = some of ∧ x.toInt = lo + i ∧ (pc : Int) + of = (t : Int) ∧ fl_swi x k d sw = k t
  | [], lo, [], _ => Or.inl ⟨by rcases Int.lt_or_le x.toInt lo with q | q
                                · exact Or.inl q
                                · exact Or.inr (by simpa using q), rfl⟩
  | [], lo, _ :: _, h => by simp [fl_sws] at h
  | o :: os, lo, [], h => by simp [fl_sws] at h
  | o :: os, lo, (y, t) :: l, h => by
    simp only [fl_sws, Bool.and_eq_true, decide_eq_true_eq] at h
    obtain ⟨⟨⟨⟨h0, h1⟩, h2⟩, h3⟩, h4⟩ := h
    have hy : y.toInt = lo := by rw [h2]; exact Int32.toInt_ofInt_of_le (by show -2147483648 ≤ lo; exact h0) (by show lo < 2147483648; omega)
    by_cases e : x = y
    · exact Or.inr ⟨0, o, t, rfl, by rw [e, hy]; simp, h3, by rw [fl_swi, if_pos e]⟩
    · have ne : x.toInt ≠ y.toInt := fun z => e (Int32.toInt_inj.mp z)
      rcases fl_sws_spec (x := x) (k := k) (d := d) os (lo + 1) l h4 with ⟨g1, g2⟩ | ⟨i, of, t', g1, g2, g3, g4⟩
      · exact Or.inl ⟨by rw [List.length_cons]; omega, by rw [fl_swi, if_neg e]; exact g2⟩
      · exact Or.inr ⟨i + 1, of, t', g1, by rw [g2]; omega, g3, by rw [fl_swi, if_neg e]; exact g4⟩
theorem fl_lks_spec {β : Type} {x : Int32} {k : Nat → β} {d pc : Nat} {df : Int} (hd : (pc : Int) + df = (d : Int)) : ∀ (ps : List (Int × Int)) (sw : List (Int32 × Nat)), fl_lks pc ps sw = true →
    ∃ (of : Int) (t : Nat), Op.lookupswitch.offset ps df x.toInt = of ∧ (pc : Int) + of = (t : Int) ∧ fl_swi x k d sw = k t
  | [], [], _ => ⟨df, d, rfl, hd, rfl⟩
  | [], _ :: _, h => by simp [fl_lks] at h
  | _ :: _, [], h => by simp [fl_lks] at h
  | (v, of) :: os, (y, t) :: l, h => by
    simp only [fl_lks, Bool.and_eq_true, decide_eq_true_eq] at h
    obtain ⟨⟨h1, h2⟩, h3⟩ := h
    rw [Op.lookupswitch.offset_cons]
    by_cases e : x = y
    · refine ⟨of, t, ?_, h2, by rw [fl_swi, if_pos e]⟩
      rw [if_pos (by rw [e, h1])]
    · obtain ⟨of', t', g1, g2, g3⟩ := fl_lks_spec (x := x) (k := k) hd os l h3
      refine ⟨of', t', ?_, g2, by rw [fl_swi, if_neg e]; exact g3⟩
      rw [if_neg (fun z => e (Int32.toInt_inj.mp (z.symm.trans h1.symm)))]
      exact g1
section FLS
variable {l : Launch} {D : va_G} {G : ClassId × ClassId × ClassId} {w : fl_V} {Ls : Nat} {xs : Nat → Int32} {p : Program} {e : Env} {R : Room} {s : State} {m : MethodId} {args : Array Value} {below : List Frame} {meth : Method} {c : Code} {Q : State → Prop} {k0 s0 mid pc : Nat} {L : fl_L} {st : List Value} {h : fl_H} {o : fl_O}
variable {nx : Nat → fl_L → List Value → fl_H → Option fl_O} {cl : Nat → List Value → fl_H → Option fl_O}
set_option maxHeartbeats 4000000 in
set_option maxRecDepth 20000 in
theorem fl_one1 {len a b c9 d9 p9 : Nat} {x9 : Int32} {q9 : Int64} {sw : List (Int32 × Nat)} {lv : Option (List Bool)} (hC : fl_Cx l D G w Ls xs mid p s m args meth c) (nxt : ∀ pc L st h, nx pc L st h = some o → fl_Wd l D G w Ls xs p e R s m args below meth c Q k0 s0 mid pc L st h) : ∀ ins : Instr,
    fl_grp ins = 1 → fl_ok mid pc (ins, len, a, b, c9, d9, p9, x9, q9, sw, lv) = true → fl_phi nx cl (fl_step (ins, len, a, b, c9, d9, p9, x9, q9, sw, lv) pc L st h) = some o → fl_Wd l D G w Ls xs p e R s m args below meth c Q k0 s0 mid pc L st h := by
  intro ins hgr hok hφ H locs cells slots ls hR hS hq hc hs hL
  obtain ⟨hx, hb, hr, hml, hown, hts, hlk, hnm, het, hst, hEX⟩ := id hC
  have hw : fl_fm w := hEX.2.2.2.2.2.2.2.2.2.2.2
  have hz : ¬ (fl_phi nx cl none = some o) := fun z => by cases z
  cases ins
  case iconst n =>
    simp only [fl_ok, Bool.and_eq_true, decide_eq_true_eq] at hok
    obtain ⟨hd, h1, h2⟩ := hok
    subst h1
    exact lv_iconst hx hb hd h2 (nxt _ _ _ _ (fl_phi_nx hφ) H locs cells slots ls hR hS hq hc hs hL)
  case bipush n =>
    simp only [fl_ok, Bool.and_eq_true, decide_eq_true_eq] at hok
    obtain ⟨hd, h1, h2⟩ := hok
    subst h1
    exact lv_bipush hx hb hd h2 (nxt _ _ _ _ (fl_phi_nx hφ) H locs cells slots ls hR hS hq hc hs hL)
  case sipush n =>
    simp only [fl_ok, Bool.and_eq_true, decide_eq_true_eq] at hok
    obtain ⟨hd, h1, h2⟩ := hok
    subst h1
    exact lv_sipush hx hb hd h2 (nxt _ _ _ _ (fl_phi_nx hφ) H locs cells slots ls hR hS hq hc hs hL)
  case lconst n =>
    simp only [fl_ok, Bool.and_eq_true, decide_eq_true_eq] at hok
    obtain ⟨hd, h1, h2⟩ := hok
    subst h1
    exact lv_lconst hx hb hd h2 (nxt _ _ _ _ (fl_phi_nx hφ) H locs cells slots ls hR hS hq hc hs hL)
  case ldc_w n =>
    simp only [fl_ok, Bool.and_eq_true, decide_eq_true_eq] at hok
    obtain ⟨hd, h1, h2⟩ := hok
    subst h1
    exact lv_ldcw hx hb hown (hts _ (fl_t_mem h2)) hd (nxt _ _ _ _ (fl_phi_nx hφ) H locs cells slots ls hR hS hq hc hs hL)
  case ldc2_w n =>
    simp only [fl_ok, Bool.and_eq_true, decide_eq_true_eq] at hok
    obtain ⟨hd, h1, h2⟩ := hok
    subst h1
    exact lv_ldc2 hx hb hown (hts _ (fl_t_mem h2)) hd (nxt _ _ _ _ (fl_phi_nx hφ) H locs cells slots ls hR hS hq hc hs hL)
  case ldc n =>
    simp only [fl_ok, Bool.and_eq_true, decide_eq_true_eq] at hok
    obtain ⟨hd, h1, h2⟩ := hok
    subst h1
    match c9, h2, hφ with
    | 0, h2, hφ => exact lv_ldc hx hb hown (hts _ (fl_t_mem h2)) hd (nxt _ _ _ _ (fl_phi_nx hφ) H locs cells slots ls hR hS hq hc hs hL)
    | 1, h2, hφ =>
      simp only [Bool.and_eq_true, decide_eq_true_eq, List.any_eq_true] at h2
      obtain ⟨⟨h3, h4⟩, z, h5, ⟨h6, h7⟩, h8⟩ := h2
      have hstr := hEX.2.2.1 z h5
      have ea : fl_ad w a = w.2.1 z.2.2.2 := by
        unfold fl_ad
        rw [if_neg (by omega), if_pos (by omega), h8]
      rw [h6, h7] at hstr
      refine va_ldcS hx hb hown hstr hd ?_
      have := nxt _ _ _ _ (fl_phi_nx hφ) H locs cells slots ls hR hS hq hc hs hL
      rw [← ea]
      exact this
    | _ + 2, h2, hφ => cases hφ
  case iload n =>
    simp only [fl_ok, Bool.and_eq_true, decide_eq_true_eq] at hok
    obtain ⟨hd, h1, h2⟩ := hok
    subst h1
    subst h2
    obtain ⟨v, hv, hφ⟩ := fl_iv_inv (z := fun q => fl_phi nx cl q = some o) hz hφ
    exact lv_iload hx hb hd (hL.2.2 _ _ hv) (nxt _ _ _ _ (fl_phi_nx hφ) H locs cells slots ls hR hS hq hc hs hL)
  case iload_n n =>
    simp only [fl_ok, Bool.and_eq_true, decide_eq_true_eq] at hok
    obtain ⟨hd, h1, h2⟩ := hok
    subst h1
    obtain ⟨v, hv, hφ⟩ := fl_iv_inv (z := fun q => fl_phi nx cl q = some o) hz hφ
    exact lv_iload_n hx hb hd h2 (hL.2.2 _ _ hv) (nxt _ _ _ _ (fl_phi_nx hφ) H locs cells slots ls hR hS hq hc hs hL)
  case lload n =>
    simp only [fl_ok, Bool.and_eq_true, decide_eq_true_eq] at hok
    obtain ⟨hd, h1, h2⟩ := hok
    subst h1
    subst h2
    obtain ⟨v, hv, hφ⟩ := fl_lv_inv (z := fun q => fl_phi nx cl q = some o) hz hφ
    exact lv_lload hx hb hd (hL.2.2 _ _ hv) (nxt _ _ _ _ (fl_phi_nx hφ) H locs cells slots ls hR hS hq hc hs hL)
  case lload_n n =>
    simp only [fl_ok, Bool.and_eq_true, decide_eq_true_eq] at hok
    obtain ⟨hd, h1, h2⟩ := hok
    subst h1
    obtain ⟨v, hv, hφ⟩ := fl_lv_inv (z := fun q => fl_phi nx cl q = some o) hz hφ
    exact lv_lload_n hx hb hd h2 (hL.2.2 _ _ hv) (nxt _ _ _ _ (fl_phi_nx hφ) H locs cells slots ls hR hS hq hc hs hL)
  case aload n =>
    simp only [fl_ok, Bool.and_eq_true, decide_eq_true_eq] at hok
    obtain ⟨hd, h1, h2⟩ := hok
    subst h1
    subst h2
    obtain ⟨v, hv, hφ⟩ := fl_rv_inv (z := fun q => fl_phi nx cl q = some o) hz hφ
    exact lv_aload hx hb hd (hL.2.2 _ _ hv) (nxt _ _ _ _ (fl_phi_nx hφ) H locs cells slots ls hR hS hq hc hs hL)
  case aload_n n =>
    simp only [fl_ok, Bool.and_eq_true, decide_eq_true_eq] at hok
    obtain ⟨hd, h1, h2⟩ := hok
    subst h1
    obtain ⟨v, hv, hφ⟩ := fl_rv_inv (z := fun q => fl_phi nx cl q = some o) hz hφ
    exact lv_aload_n hx hb hd h2 (hL.2.2 _ _ hv) (nxt _ _ _ _ (fl_phi_nx hφ) H locs cells slots ls hR hS hq hc hs hL)
  case istore n =>
    simp only [fl_ok, Bool.and_eq_true, decide_eq_true_eq] at hok
    obtain ⟨hd, ⟨h1, h2⟩, h3⟩ := hok
    subst h1
    subst h2
    obtain ⟨v, r, hst2, hφ⟩ := fl_i1_inv (z := fun q => fl_phi nx cl q = some o) hz hφ
    subst hst2
    obtain ⟨g1, hφ⟩ := fl_phi_ng hφ
    refine lv_istore hx hb hd hL.has h3 rfl (fun ls' hl' => ?_)
    exact nxt _ _ _ _ hφ H locs cells slots ls' hR hS hq hc hs (fl_LR.st1 (v := .int v) hw g1 hl')
  case istore_n n =>
    simp only [fl_ok, Bool.and_eq_true, decide_eq_true_eq] at hok
    obtain ⟨hd, ⟨h1, h2⟩, h3⟩ := hok
    subst h1
    obtain ⟨v, r, hst2, hφ⟩ := fl_i1_inv (z := fun q => fl_phi nx cl q = some o) hz hφ
    subst hst2
    obtain ⟨g1, hφ⟩ := fl_phi_ng hφ
    refine lv_istore_n hx hb hd h2 hL.has h3 rfl (fun ls' hl' => ?_)
    exact nxt _ _ _ _ hφ H locs cells slots ls' hR hS hq hc hs (fl_LR.st1 (v := .int v) hw g1 hl')
  case lstore n =>
    simp only [fl_ok, Bool.and_eq_true, decide_eq_true_eq] at hok
    obtain ⟨hd, ⟨h1, h2⟩, h3⟩ := hok
    subst h1
    subst h2
    obtain ⟨v, r, hst2, hφ⟩ := fl_l1_inv (z := fun q => fl_phi nx cl q = some o) hz hφ
    subst hst2
    obtain ⟨g1, hφ⟩ := fl_phi_ng hφ
    refine lv_lstore hx hb hd hL.has h3 rfl (fun ls' hl' => ?_)
    exact nxt _ _ _ _ hφ H locs cells slots ls' hR hS hq hc hs (fl_LR.st2 (v := .long v) hw g1 hl')
  case lstore_n n =>
    simp only [fl_ok, Bool.and_eq_true, decide_eq_true_eq] at hok
    obtain ⟨hd, ⟨h1, h2⟩, h3⟩ := hok
    subst h1
    obtain ⟨v, r, hst2, hφ⟩ := fl_l1_inv (z := fun q => fl_phi nx cl q = some o) hz hφ
    subst hst2
    obtain ⟨g1, hφ⟩ := fl_phi_ng hφ
    refine lv_lstore_n hx hb hd h2 hL.has h3 rfl (fun ls' hl' => ?_)
    exact nxt _ _ _ _ hφ H locs cells slots ls' hR hS hq hc hs (fl_LR.st2 (v := .long v) hw g1 hl')
  case astore n =>
    simp only [fl_ok, Bool.and_eq_true, decide_eq_true_eq] at hok
    obtain ⟨hd, ⟨h1, h2⟩, h3⟩ := hok
    subst h1
    subst h2
    obtain ⟨v, r, hst2, hφ⟩ := fl_r1_inv (z := fun q => fl_phi nx cl q = some o) hz hφ
    subst hst2
    obtain ⟨g1, hφ⟩ := fl_phi_ng hφ
    refine lv_astore hx hb hd hL.has h3 rfl (fun ls' hl' => ?_)
    exact nxt _ _ _ _ hφ H locs cells slots ls' hR hS hq hc hs (fl_LR.st1 (v := .ref v) hw g1 hl')
  case astore_n n =>
    simp only [fl_ok, Bool.and_eq_true, decide_eq_true_eq] at hok
    obtain ⟨hd, ⟨h1, h2⟩, h3⟩ := hok
    subst h1
    obtain ⟨v, r, hst2, hφ⟩ := fl_r1_inv (z := fun q => fl_phi nx cl q = some o) hz hφ
    subst hst2
    obtain ⟨g1, hφ⟩ := fl_phi_ng hφ
    refine lv_astore_n hx hb hd h2 hL.has h3 rfl (fun ls' hl' => ?_)
    exact nxt _ _ _ _ hφ H locs cells slots ls' hR hS hq hc hs (fl_LR.st1 (v := .ref v) hw g1 hl')
  case iinc i n =>
    simp only [fl_ok, Bool.and_eq_true, decide_eq_true_eq] at hok
    obtain ⟨hd, ⟨⟨h1, h2⟩, h3⟩, h4⟩ := hok
    subst h1
    subst h2
    obtain ⟨v, hv, hφ⟩ := fl_iv_inv (z := fun q => fl_phi nx cl q = some o) hz hφ
    obtain ⟨g1, hφ⟩ := fl_phi_ng hφ
    obtain ⟨k, hk⟩ := List.getElem?_of_mem ((fl_as_mem w L 0 (i, .int v)).mpr ⟨i, .int v, by rw [Nat.zero_add]; rfl, hv⟩)
    refine lv_iinc (v := v + x9) hx hb hd hL.has hk (by rw [h3]) h4 rfl (fun ls' hl' => ?_)
    exact nxt _ _ _ _ hφ H locs cells slots ls' hR hS hq hc hs (fl_LR.st1 (v := .int (v + x9)) hw g1 hl')
  case iadd =>
    simp only [fl_ok, Bool.and_eq_true, decide_eq_true_eq] at hok
    obtain ⟨hd, h1⟩ := hok
    subst h1
    obtain ⟨x, y, r, hst2, hφ⟩ := fl_ii_inv (z := fun q => fl_phi nx cl q = some o) hz hφ
    subst hst2
    exact lv_iadd hx hb hd (nxt _ _ _ _ (fl_phi_nx hφ) H locs cells slots ls hR hS hq hc hs hL)
  case isub =>
    simp only [fl_ok, Bool.and_eq_true, decide_eq_true_eq] at hok
    obtain ⟨hd, h1⟩ := hok
    subst h1
    obtain ⟨x, y, r, hst2, hφ⟩ := fl_ii_inv (z := fun q => fl_phi nx cl q = some o) hz hφ
    subst hst2
    exact lv_isub hx hb hd (nxt _ _ _ _ (fl_phi_nx hφ) H locs cells slots ls hR hS hq hc hs hL)
  case imul =>
    simp only [fl_ok, Bool.and_eq_true, decide_eq_true_eq] at hok
    obtain ⟨hd, h1⟩ := hok
    subst h1
    obtain ⟨x, y, r, hst2, hφ⟩ := fl_ii_inv (z := fun q => fl_phi nx cl q = some o) hz hφ
    subst hst2
    exact lv_imul hx hb hd (nxt _ _ _ _ (fl_phi_nx hφ) H locs cells slots ls hR hS hq hc hs hL)
  case iand =>
    simp only [fl_ok, Bool.and_eq_true, decide_eq_true_eq] at hok
    obtain ⟨hd, h1⟩ := hok
    subst h1
    obtain ⟨x, y, r, hst2, hφ⟩ := fl_ii_inv (z := fun q => fl_phi nx cl q = some o) hz hφ
    subst hst2
    exact lv_iand hx hb hd (nxt _ _ _ _ (fl_phi_nx hφ) H locs cells slots ls hR hS hq hc hs hL)
  case ior =>
    simp only [fl_ok, Bool.and_eq_true, decide_eq_true_eq] at hok
    obtain ⟨hd, h1⟩ := hok
    subst h1
    obtain ⟨x, y, r, hst2, hφ⟩ := fl_ii_inv (z := fun q => fl_phi nx cl q = some o) hz hφ
    subst hst2
    exact lv_ior hx hb hd (nxt _ _ _ _ (fl_phi_nx hφ) H locs cells slots ls hR hS hq hc hs hL)
  case ixor =>
    simp only [fl_ok, Bool.and_eq_true, decide_eq_true_eq] at hok
    obtain ⟨hd, h1⟩ := hok
    subst h1
    obtain ⟨x, y, r, hst2, hφ⟩ := fl_ii_inv (z := fun q => fl_phi nx cl q = some o) hz hφ
    subst hst2
    exact lv_ixor hx hb hd (nxt _ _ _ _ (fl_phi_nx hφ) H locs cells slots ls hR hS hq hc hs hL)
  case ishl =>
    simp only [fl_ok, Bool.and_eq_true, decide_eq_true_eq] at hok
    obtain ⟨hd, h1⟩ := hok
    subst h1
    obtain ⟨x, y, r, hst2, hφ⟩ := fl_ii_inv (z := fun q => fl_phi nx cl q = some o) hz hφ
    subst hst2
    exact lv_ishl hx hb hd (nxt _ _ _ _ (fl_phi_nx hφ) H locs cells slots ls hR hS hq hc hs hL)
  case ishr =>
    simp only [fl_ok, Bool.and_eq_true, decide_eq_true_eq] at hok
    obtain ⟨hd, h1⟩ := hok
    subst h1
    obtain ⟨x, y, r, hst2, hφ⟩ := fl_ii_inv (z := fun q => fl_phi nx cl q = some o) hz hφ
    subst hst2
    exact lv_ishr hx hb hd (nxt _ _ _ _ (fl_phi_nx hφ) H locs cells slots ls hR hS hq hc hs hL)
  case iushr =>
    simp only [fl_ok, Bool.and_eq_true, decide_eq_true_eq] at hok
    obtain ⟨hd, h1⟩ := hok
    subst h1
    obtain ⟨x, y, r, hst2, hφ⟩ := fl_ii_inv (z := fun q => fl_phi nx cl q = some o) hz hφ
    subst hst2
    exact lv_iushr hx hb hd rfl (nxt _ _ _ _ (fl_phi_nx hφ) H locs cells slots ls hR hS hq hc hs hL)
  case idiv =>
    simp only [fl_ok, Bool.and_eq_true, decide_eq_true_eq] at hok
    obtain ⟨hd, h1⟩ := hok
    subst h1
    obtain ⟨x, y, r, hst2, hφ⟩ := fl_ii_inv (z := fun q => fl_phi nx cl q = some o) hz hφ
    subst hst2
    obtain ⟨g1, hφ⟩ := fl_phi_ng hφ
    exact lv_idiv hx hb hd (of_decide_eq_true g1) (nxt _ _ _ _ hφ H locs cells slots ls hR hS hq hc hs hL)
  case irem =>
    simp only [fl_ok, Bool.and_eq_true, decide_eq_true_eq] at hok
    obtain ⟨hd, h1⟩ := hok
    subst h1
    obtain ⟨x, y, r, hst2, hφ⟩ := fl_ii_inv (z := fun q => fl_phi nx cl q = some o) hz hφ
    subst hst2
    obtain ⟨g1, hφ⟩ := fl_phi_ng hφ
    exact lv_irem hx hb hd (of_decide_eq_true g1) (nxt _ _ _ _ hφ H locs cells slots ls hR hS hq hc hs hL)
  case ladd =>
    simp only [fl_ok, Bool.and_eq_true, decide_eq_true_eq] at hok
    obtain ⟨hd, h1⟩ := hok
    subst h1
    obtain ⟨x, y, r, hst2, hφ⟩ := fl_ll_inv (z := fun q => fl_phi nx cl q = some o) hz hφ
    subst hst2
    exact lv_ladd hx hb hd (nxt _ _ _ _ (fl_phi_nx hφ) H locs cells slots ls hR hS hq hc hs hL)
  case lsub =>
    simp only [fl_ok, Bool.and_eq_true, decide_eq_true_eq] at hok
    obtain ⟨hd, h1⟩ := hok
    subst h1
    obtain ⟨x, y, r, hst2, hφ⟩ := fl_ll_inv (z := fun q => fl_phi nx cl q = some o) hz hφ
    subst hst2
    exact lv_lsub hx hb hd (nxt _ _ _ _ (fl_phi_nx hφ) H locs cells slots ls hR hS hq hc hs hL)
  case land =>
    simp only [fl_ok, Bool.and_eq_true, decide_eq_true_eq] at hok
    obtain ⟨hd, h1⟩ := hok
    subst h1
    obtain ⟨x, y, r, hst2, hφ⟩ := fl_ll_inv (z := fun q => fl_phi nx cl q = some o) hz hφ
    subst hst2
    exact lv_land hx hb hd (nxt _ _ _ _ (fl_phi_nx hφ) H locs cells slots ls hR hS hq hc hs hL)
  case lor =>
    simp only [fl_ok, Bool.and_eq_true, decide_eq_true_eq] at hok
    obtain ⟨hd, h1⟩ := hok
    subst h1
    obtain ⟨x, y, r, hst2, hφ⟩ := fl_ll_inv (z := fun q => fl_phi nx cl q = some o) hz hφ
    subst hst2
    exact lv_lor hx hb hd (nxt _ _ _ _ (fl_phi_nx hφ) H locs cells slots ls hR hS hq hc hs hL)
  case lxor =>
    simp only [fl_ok, Bool.and_eq_true, decide_eq_true_eq] at hok
    obtain ⟨hd, h1⟩ := hok
    subst h1
    obtain ⟨x, y, r, hst2, hφ⟩ := fl_ll_inv (z := fun q => fl_phi nx cl q = some o) hz hφ
    subst hst2
    exact lv_lxor hx hb hd (nxt _ _ _ _ (fl_phi_nx hφ) H locs cells slots ls hR hS hq hc hs hL)
  case lcmp =>
    simp only [fl_ok, Bool.and_eq_true, decide_eq_true_eq] at hok
    obtain ⟨hd, h1⟩ := hok
    subst h1
    obtain ⟨x, y, r, hst2, hφ⟩ := fl_ll_inv (z := fun q => fl_phi nx cl q = some o) hz hφ
    subst hst2
    exact W.lcmp hx hb hd (nxt _ _ _ _ (fl_phi_nx hφ) H locs cells slots ls hR hS hq hc hs hL)
  case lshl =>
    simp only [fl_ok, Bool.and_eq_true, decide_eq_true_eq] at hok
    obtain ⟨hd, h1⟩ := hok
    subst h1
    obtain ⟨x, y, r, hst2, hφ⟩ := fl_li_inv (z := fun q => fl_phi nx cl q = some o) hz hφ
    subst hst2
    exact lv_lshl hx hb hd rfl (nxt _ _ _ _ (fl_phi_nx hφ) H locs cells slots ls hR hS hq hc hs hL)
  case lshr =>
    simp only [fl_ok, Bool.and_eq_true, decide_eq_true_eq] at hok
    obtain ⟨hd, h1⟩ := hok
    subst h1
    obtain ⟨x, y, r, hst2, hφ⟩ := fl_li_inv (z := fun q => fl_phi nx cl q = some o) hz hφ
    subst hst2
    exact lv_lshr hx hb hd rfl (nxt _ _ _ _ (fl_phi_nx hφ) H locs cells slots ls hR hS hq hc hs hL)
  case lushr =>
    simp only [fl_ok, Bool.and_eq_true, decide_eq_true_eq] at hok
    obtain ⟨hd, h1⟩ := hok
    subst h1
    obtain ⟨x, y, r, hst2, hφ⟩ := fl_li_inv (z := fun q => fl_phi nx cl q = some o) hz hφ
    subst hst2
    exact lv_lushr hx hb hd rfl (nxt _ _ _ _ (fl_phi_nx hφ) H locs cells slots ls hR hS hq hc hs hL)
  case i2l =>
    simp only [fl_ok, Bool.and_eq_true, decide_eq_true_eq] at hok
    obtain ⟨hd, h1⟩ := hok
    subst h1
    obtain ⟨x, r, hst2, hφ⟩ := fl_i1_inv (z := fun q => fl_phi nx cl q = some o) hz hφ
    subst hst2
    exact lv_i2l hx hb hd rfl (nxt _ _ _ _ (fl_phi_nx hφ) H locs cells slots ls hR hS hq hc hs hL)
  case i2c =>
    simp only [fl_ok, Bool.and_eq_true, decide_eq_true_eq] at hok
    obtain ⟨hd, h1⟩ := hok
    subst h1
    obtain ⟨x, r, hst2, hφ⟩ := fl_i1_inv (z := fun q => fl_phi nx cl q = some o) hz hφ
    subst hst2
    exact lv_i2c hx hb hd rfl (nxt _ _ _ _ (fl_phi_nx hφ) H locs cells slots ls hR hS hq hc hs hL)
  case i2b =>
    simp only [fl_ok, Bool.and_eq_true, decide_eq_true_eq] at hok
    obtain ⟨hd, h1⟩ := hok
    subst h1
    obtain ⟨x, r, hst2, hφ⟩ := fl_i1_inv (z := fun q => fl_phi nx cl q = some o) hz hφ
    subst hst2
    exact lv_i2b hx hb hd rfl (nxt _ _ _ _ (fl_phi_nx hφ) H locs cells slots ls hR hS hq hc hs hL)
  case l2i =>
    simp only [fl_ok, Bool.and_eq_true, decide_eq_true_eq] at hok
    obtain ⟨hd, h1⟩ := hok
    subst h1
    obtain ⟨x, r, hst2, hφ⟩ := fl_l1_inv (z := fun q => fl_phi nx cl q = some o) hz hφ
    subst hst2
    exact lv_l2i hx hb hd rfl (nxt _ _ _ _ (fl_phi_nx hφ) H locs cells slots ls hR hS hq hc hs hL)
  case ifCond k off =>
    simp only [fl_ok, Bool.and_eq_true, decide_eq_true_eq] at hok
    obtain ⟨hd, h1, h2⟩ := hok
    subst h1
    obtain ⟨x, r, hst2, hφ⟩ := fl_i1_inv (z := fun q => fl_phi nx cl q = some o) hz hφ
    subst hst2
    obtain ⟨t1, t2⟩ := fl_phi_br hφ
    cases k with
    | eq => exact lv_if_eq hx hb hd h2 (fun z => nxt _ _ _ _ (t1 (decide_eq_true z)) H locs cells slots ls hR hS hq hc hs hL) (fun z => nxt _ _ _ _ (t2 (decide_eq_false z)) H locs cells slots ls hR hS hq hc hs hL)
    | ne => exact lv_if_ne hx hb hd h2 (fun z => nxt _ _ _ _ (t1 (decide_eq_true z)) H locs cells slots ls hR hS hq hc hs hL) (fun z => nxt _ _ _ _ (t2 (decide_eq_false (fun q => q z))) H locs cells slots ls hR hS hq hc hs hL)
    | lt => exact lv_if_lt hx hb hd h2 (fun z => nxt _ _ _ _ (t1 (decide_eq_true z)) H locs cells slots ls hR hS hq hc hs hL) (fun z => nxt _ _ _ _ (t2 (decide_eq_false z)) H locs cells slots ls hR hS hq hc hs hL)
    | ge => exact lv_if_ge hx hb hd h2 (fun z => nxt _ _ _ _ (t1 (decide_eq_true z)) H locs cells slots ls hR hS hq hc hs hL) (fun z => nxt _ _ _ _ (t2 (decide_eq_false z)) H locs cells slots ls hR hS hq hc hs hL)
    | gt => exact lv_if_gt hx hb hd h2 (fun z => nxt _ _ _ _ (t1 (decide_eq_true z)) H locs cells slots ls hR hS hq hc hs hL) (fun z => nxt _ _ _ _ (t2 (decide_eq_false z)) H locs cells slots ls hR hS hq hc hs hL)
    | le => exact lv_if_le hx hb hd h2 (fun z => nxt _ _ _ _ (t1 (decide_eq_true z)) H locs cells slots ls hR hS hq hc hs hL) (fun z => nxt _ _ _ _ (t2 (decide_eq_false z)) H locs cells slots ls hR hS hq hc hs hL)
  case if_icmp k off =>
    simp only [fl_ok, Bool.and_eq_true, decide_eq_true_eq] at hok
    obtain ⟨hd, h1, h2⟩ := hok
    subst h1
    obtain ⟨x, y, r, hst2, hφ⟩ := fl_ii_inv (z := fun q => fl_phi nx cl q = some o) hz hφ
    subst hst2
    obtain ⟨t1, t2⟩ := fl_phi_br hφ
    cases k with
    | eq => exact lv_icmp_eq hx hb hd h2 (fun z => nxt _ _ _ _ (t1 (decide_eq_true z)) H locs cells slots ls hR hS hq hc hs hL) (fun z => nxt _ _ _ _ (t2 (decide_eq_false z)) H locs cells slots ls hR hS hq hc hs hL)
    | ne => exact lv_icmp_ne hx hb hd h2 (fun z => nxt _ _ _ _ (t1 (decide_eq_true z)) H locs cells slots ls hR hS hq hc hs hL) (fun z => nxt _ _ _ _ (t2 (decide_eq_false (fun q => q z))) H locs cells slots ls hR hS hq hc hs hL)
    | lt => exact lv_icmp_lt hx hb hd h2 (fun z => nxt _ _ _ _ (t1 (decide_eq_true z)) H locs cells slots ls hR hS hq hc hs hL) (fun z => nxt _ _ _ _ (t2 (decide_eq_false z)) H locs cells slots ls hR hS hq hc hs hL)
    | ge => exact lv_icmp_ge hx hb hd h2 (fun z => nxt _ _ _ _ (t1 (decide_eq_true z)) H locs cells slots ls hR hS hq hc hs hL) (fun z => nxt _ _ _ _ (t2 (decide_eq_false z)) H locs cells slots ls hR hS hq hc hs hL)
    | gt => exact lv_icmp_gt hx hb hd h2 (fun z => nxt _ _ _ _ (t1 (decide_eq_true z)) H locs cells slots ls hR hS hq hc hs hL) (fun z => nxt _ _ _ _ (t2 (decide_eq_false z)) H locs cells slots ls hR hS hq hc hs hL)
    | le => exact lv_icmp_le hx hb hd h2 (fun z => nxt _ _ _ _ (t1 (decide_eq_true z)) H locs cells slots ls hR hS hq hc hs hL) (fun z => nxt _ _ _ _ (t2 (decide_eq_false z)) H locs cells slots ls hR hS hq hc hs hL)
  case goto off =>
    simp only [fl_ok, Bool.and_eq_true, decide_eq_true_eq] at hok
    obtain ⟨hd, h1, h2⟩ := hok
    subst h1
    exact lv_goto hx hb hd h2 (nxt _ _ _ _ (fl_phi_nx hφ) H locs cells slots ls hR hS hq hc hs hL)
  case tableswitch df lo hi offs =>
    simp only [fl_ok, Bool.and_eq_true, decide_eq_true_eq] at hok
    obtain ⟨hd, ⟨⟨h1, h2⟩, h3⟩, h4⟩ := hok
    obtain ⟨x, r, hst2, hφ⟩ := fl_i1_inv (z := fun q => fl_phi nx cl q = some o) hz hφ
    subst hst2
    have hφ : fl_swi x (fun t => nx t L r h) a sw = some o := hφ
    rcases fl_sws_spec (x := x) (k := fun t => nx t L r h) offs.toList lo sw h4 with ⟨g1, g2⟩ | ⟨i, of, t, g1, g2, g3, g4⟩
    · rw [g2] at hφ
      refine lv_tableOut hx hb hd (by rw [Array.length_toList] at g1; omega) h1 (nxt _ _ _ _ hφ H locs cells slots ls hR hS hq hc hs hL)
    · rw [g4] at hφ
      have hi := (List.getElem?_eq_some_iff.mp g1).1
      rw [Array.length_toList] at hi
      refine lv_tableIn hx hb hd (by omega) (by omega) (off := of) (tgt := t) (by rw [show (x.toInt - lo).toNat = i by omega, ← Array.getElem?_toList]; exact g1) g3 (nxt _ _ _ _ hφ H locs cells slots ls hR hS hq hc hs hL)
  case lookupswitch df ps =>
    simp only [fl_ok, Bool.and_eq_true, decide_eq_true_eq] at hok
    obtain ⟨hd, ⟨h1, h2⟩, h3⟩ := hok
    obtain ⟨x, r, hst2, hφ⟩ := fl_i1_inv (z := fun q => fl_phi nx cl q = some o) hz hφ
    subst hst2
    have hφ : fl_swi x (fun t => nx t L r h) a sw = some o := hφ
    obtain ⟨of, t, g1, g2, g3⟩ := fl_lks_spec (x := x) (k := fun t => nx t L r h) (df := df) h1 ps.toList sw h3
    rw [g3] at hφ
    exact lv_lookup hx hb hd h2 g1 g2 (nxt _ _ _ _ hφ H locs cells slots ls hR hS hq hc hs hL)
  case dup =>
    simp only [fl_ok, Bool.and_eq_true, decide_eq_true_eq] at hok
    obtain ⟨hd, h1⟩ := hok
    subst h1
    match st, hφ with
    | .int v :: r, hφ => exact lv_dup hx hb hd rfl (nxt _ _ _ _ (fl_phi_nx hφ) H locs cells slots ls hR hS hq hc hs hL)
    | .ref v :: r, hφ => exact lv_dup hx hb hd rfl (nxt _ _ _ _ (fl_phi_nx hφ) H locs cells slots ls hR hS hq hc hs hL)
  case dup2 =>
    simp only [fl_ok, Bool.and_eq_true, decide_eq_true_eq] at hok
    obtain ⟨hd, h1⟩ := hok
    subst h1
    obtain ⟨x, i, r, hst2, hφ⟩ := fl_ri_inv (z := fun q => fl_phi nx cl q = some o) hz hφ
    subst hst2
    exact lv_dup2_11 hx hb hd rfl rfl (nxt _ _ _ _ (fl_phi_nx hφ) H locs cells slots ls hR hS hq hc hs hL)
  case pop =>
    simp only [fl_ok, Bool.and_eq_true, decide_eq_true_eq] at hok
    obtain ⟨hd, h1⟩ := hok
    subst h1
    obtain ⟨x, r, hst2, hφ⟩ := fl_i1_inv (z := fun q => fl_phi nx cl q = some o) hz hφ
    subst hst2
    exact lv_pop hx hb hd rfl (nxt _ _ _ _ (fl_phi_nx hφ) H locs cells slots ls hR hS hq hc hs hL)
  all_goals (simp [fl_grp] at hgr)
end FLS
