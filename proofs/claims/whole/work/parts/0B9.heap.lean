section FLH
variable {l : Launch} {D : va_G} {G : ClassId × ClassId × ClassId} {w : fl_V} {Ls : Nat} {xs : Nat → Int32} {p : Program} {e : Env} {R : Room} {s : State} {m : MethodId} {args : Array Value} {below : List Frame} {meth : Method} {c : Code} {Q : State → Prop} {k0 s0 mid pc : Nat} {L : fl_L} {st : List Value} {h : fl_H} {o : fl_O}
variable {nx : Nat → fl_L → List Value → fl_H → Option fl_O} {cl : Nat → List Value → fl_H → Option fl_O}
set_option maxHeartbeats 1000000 in
set_option maxRecDepth 20000 in
theorem fl_one9 {len a b c9 d9 p9 : Nat} {x9 : Int32} {q9 : Int64} {sw : List (Int32 × Nat)} {lv : Option (List Bool)} (hC : fl_Cx l D G w Ls xs mid p s m args meth c) (nxt : ∀ pc L st h, nx pc L st h = some o → fl_Wd l D G w Ls xs p e R s m args below meth c Q k0 s0 mid pc L st h)
    (hmn : ∀ pc L st h, nx pc L st h = some o → h.1.2.1 ≤ o.2.1.2.1 ∧ h.1.2.2.1 ≤ o.2.1.2.2.1) (hRc : o.2.1.2.1 ≤ R.cells + k0) (hRs : o.2.1.2.2.1 ≤ R.slots + s0)
    (hE : fl_End D G w Ls xs p l e R s m args below meth c Q k0 s0 mid o) (hT : fl_Thr D G w Ls xs p l e R s m args below meth c Q k0 s0 mid o) : ∀ ins : Instr,
    fl_grp ins = 9 → fl_ok mid pc (ins, len, a, b, c9, d9, p9, x9, q9, sw, lv) = true → fl_phi nx cl (fl_step (ins, len, a, b, c9, d9, p9, x9, q9, sw, lv) pc L st h) = some o → fl_Wd l D G w Ls xs p e R s m args below meth c Q k0 s0 mid pc L st h := by
  intro ins hgr hok hφ H locs cells slots ls hR hS hq hc hs hL
  obtain ⟨hx, hb, hr, hml, hown, hts, hlk, hnm, het, hst, hEX⟩ := id hC
  have hw : fl_fm w := hEX.2.2.2.2.2.2.2.2.2.2.2
  have hsA : w.1 ≤ s.heap.size := hEX.2.2.2.2.2.2.2.2.2.2.1
  have hA : ∀ q, s.heap.size ≤ q → fl_Af w q := fun q z => Nat.le_trans hsA z
  have hz : ¬ (fl_phi nx cl none = some o) := fun z => by cases z
  cases ins
  case ireturn =>
    simp only [fl_ok, Bool.and_eq_true, decide_eq_true_eq] at hok
    obtain ⟨hd, h1, h2⟩ := hok
    subst h1
    match st, hφ with
    | [.int v], hφ =>
      obtain ⟨g1, hφ⟩ := fl_phi_dn hφ
      subst hφ
      refine hE .ireturn (some (.int v)) pc H locs cells slots ls hd ?_ rfl hR hS hc hs
      rcases fl_fit_ok g1 with rfl | ⟨rfl, g2⟩ | ⟨rfl, g2⟩ | ⟨rfl, g2⟩
      · exact ⟨v, .int, rfl, of_decide_eq_true h2, rfl⟩
      · exact ⟨v, .boolean, rfl, of_decide_eq_true h2, g2⟩
      · exact ⟨v, .char, rfl, of_decide_eq_true h2, g2⟩
      · exact ⟨v, .byte, rfl, of_decide_eq_true h2, g2⟩
  case lreturn =>
    simp only [fl_ok, Bool.and_eq_true, decide_eq_true_eq] at hok
    obtain ⟨hd, h1, h2⟩ := hok
    subst h1
    match st, hφ with
    | [.long v], hφ =>
      obtain ⟨g1, hφ⟩ := fl_phi_dn hφ
      subst hφ
      exact hE .lreturn (some (.long v)) pc H locs cells slots ls hd ⟨v, rfl, h2⟩ rfl hR hS hc hs
  case return_ =>
    simp only [fl_ok, Bool.and_eq_true, decide_eq_true_eq] at hok
    obtain ⟨hd, h1, h2⟩ := hok
    subst h1
    match st, hφ with
    | [], hφ =>
      obtain ⟨g1, hφ⟩ := fl_phi_dn hφ
      subst hφ
      exact hE .return_ none pc H locs cells slots ls hd ⟨rfl, h2⟩ rfl hR hS hc hs
  all_goals (simp [fl_grp] at hgr)
end FLH
