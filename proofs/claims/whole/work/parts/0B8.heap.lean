section FLH
variable {l : Launch} {D : va_G} {G : ClassId × ClassId × ClassId} {w : fl_V} {Ls : Nat} {xs : Nat → Int32} {p : Program} {e : Env} {R : Room} {s : State} {m : MethodId} {args : Array Value} {below : List Frame} {meth : Method} {c : Code} {Q : State → Prop} {k0 s0 mid pc : Nat} {L : fl_L} {st : List Value} {h : fl_H} {o : fl_O}
variable {nx : Nat → fl_L → List Value → fl_H → Option fl_O} {cl : Nat → List Value → fl_H → Option fl_O}
set_option maxHeartbeats 1000000 in
set_option maxRecDepth 20000 in
theorem fl_one8 {len a b c9 d9 p9 : Nat} {x9 : Int32} {q9 : Int64} {sw : List (Int32 × Nat)} {lv : Option (List Bool)} (hC : fl_Cx l D G w Ls xs mid p s m args meth c) (nxt : ∀ pc L st h, nx pc L st h = some o → fl_Wd l D G w Ls xs p e R s m args below meth c Q k0 s0 mid pc L st h)
    (hmn : ∀ pc L st h, nx pc L st h = some o → h.1.2.1 ≤ o.2.1.2.1 ∧ h.1.2.2.1 ≤ o.2.1.2.2.1) (hRc : o.2.1.2.1 ≤ R.cells + k0) (hRs : o.2.1.2.2.1 ≤ R.slots + s0)
    (hE : fl_End D G w Ls xs p l e R s m args below meth c Q k0 s0 mid o) (hT : fl_Thr D G w Ls xs p l e R s m args below meth c Q k0 s0 mid o) : ∀ ins : Instr,
    fl_grp ins = 8 → fl_ok mid pc (ins, len, a, b, c9, d9, p9, x9, q9, sw, lv) = true → fl_phi nx cl (fl_step (ins, len, a, b, c9, d9, p9, x9, q9, sw, lv) pc L st h) = some o → fl_Wd l D G w Ls xs p e R s m args below meth c Q k0 s0 mid pc L st h := by
  intro ins hgr hok hφ H locs cells slots ls hR hS hq hc hs hL
  obtain ⟨hx, hb, hr, hml, hown, hts, hlk, hnm, het, hst, hEX⟩ := id hC
  have hw : fl_fm w := hEX.2.2.2.2.2.2.2.2.2.2.2
  have hsA : w.1 ≤ s.heap.size := hEX.2.2.2.2.2.2.2.2.2.2.1
  have hA : ∀ q, s.heap.size ≤ q → fl_Af w q := fun q z => Nat.le_trans hsA z
  have hz : ¬ (fl_phi nx cl none = some o) := fun z => by cases z
  cases ins
  case newarray t =>
    simp only [fl_ok, Bool.and_eq_true, decide_eq_true_eq] at hok
    obtain ⟨hd, ⟨h1, h2⟩, h3⟩ := hok
    subst h1
    obtain ⟨n, r, hst2, hφ⟩ := fl_i1_inv (z := fun q => fl_phi nx cl q = some o) hz hφ
    subst hst2
    obtain ⟨g1, hφ⟩ := fl_phi_ng hφ
    simp only [Bool.and_eq_true, decide_eq_true_eq] at g1
    obtain ⟨⟨⟨g1, g2⟩, g3⟩, g4⟩ := g1
    obtain ⟨m1, m2⟩ := hmn _ _ _ _ hφ
    have m1 : h.1.2.1 + 1 ≤ o.2.1.2.1 := m1
    have m2 : h.1.2.2.1 + n.toNatClampNeg ≤ o.2.1.2.2.1 := m2
    intro T hT X
    have hsz := fl_size hEX hR hS hq hc hT X g1
    have main : ∀ (ty : FieldType) (cA : ClassId) (a0 : vp_A), newarray.typeOf t = ty → componentBytes ty ≤ 8 → (∀ cB : ClassId, s.vm.findClass ("[" ++ ty.toString) = some cB → cB = cA) → 0 < a → a < 5 → fl_cell G w (fl_mk h (a, n.toNatClampNeg) n.toNatClampNeg) h.1.1 = .inl (cA, a0) → (∀ cB, vp_cell cB a0 = arrV cB n.toNatClampNeg (fun _ => defaultValue ty)) → ∃ t, Steps p.tables e below (T.setTop (F0 m pc ls ((Value.int n :: r).map (fl_cv w)))) t ∧ Q t := by
      intro ty cA a0 t1 t2 t3 t4 t5 t6 t7
      subst t1
      refine va_newaK (g := F0 m pc ls (.int n :: r.map (fl_cv w))) hx hb (hts _ (fl_tm_mem h2)) rfl hd (N := n.toNatClampNeg) rfl g3 rfl (Nat.le_trans (Nat.mul_le_mul (Nat.le_of_lt g4) t2) (Nat.le_of_ble_eq_true rfl)) (by omega) (by omega) hsz (fun H1 cB f1 f2 f3 f4 f5 => ?_) T hT X
      have eB := t3 cB f5
      subst eB
      have hR' := hR.mk (n := n.toNatClampNeg) (kd := (a, n.toNatClampNeg)) t4 t5 g2 hsz t6 (fun q hq => f3 q (by rw [← hsz]; exact hq)) (by show H1[w.1 + h.1.1]? = some (vp_cell _ _); rw [t7]; exact f1)
      have hS' : va_S (fl_Af w) s.heap H1 locs := ⟨by rw [f2]; have := hS.1; omega, fun q h1 h2 => (f3 q (by have := hS.1; omega)).trans (hS.2.1 q h1 h2), hS.2.2⟩
      have := nxt _ _ _ _ hφ H1 locs (cells + 1) (slots + n.toNatClampNeg) ls hR' hS' hq (by show cells + 1 + k0 = h.1.2.1 + 1; omega) (by show slots + n.toNatClampNeg + s0 = h.1.2.2.1 + n.toNatClampNeg; omega) hL
      rw [List.map_cons] at this
      have e9 : fl_cv w (.ref h.1.1) = .ref (w.1 + h.1.1) := by
        show Value.ref (fl_ad w h.1.1) = _
        unfold fl_ad
        rw [if_pos (by omega)]
      rw [e9] at this
      exact this
    obtain ⟨q1, q2, q3, q4⟩ := fl_mk_eq (h := h) (kd := (a, n.toNatClampNeg)) (n := n.toNatClampNeg)
    cases t with
    | int =>
      have ea : a = 2 := of_decide_eq_true h3
      subst ea
      exact main .int G.1 _ rfl (by decide) (fun cB hB => Option.some.inj (hB.symm.trans (hEX.1.2 0 _ rfl).2)) (by decide) (by decide) (fl_cell_int q1) (fun cB => by rw [q2]; rfl)
    | long =>
      have ea : a = 3 := of_decide_eq_true h3
      subst ea
      exact main .long G.2.1 _ rfl (by decide) (fun cB hB => Option.some.inj (hB.symm.trans (hEX.1.2 1 _ rfl).2)) (by decide) (by decide) (fl_cell_long q1) (fun cB => by rw [q3]; rfl)
    | boolean =>
      have ea : a = 4 := of_decide_eq_true h3
      subst ea
      exact main .boolean G.2.2 _ rfl (by decide) (fun cB hB => Option.some.inj (hB.symm.trans (hEX.1.2 2 _ rfl).2)) (by decide) (by decide) (fl_cell_bool q1) (fun cB => by rw [q2]; rfl)
    | _ => cases h3
  all_goals (simp [fl_grp] at hgr)
end FLH
