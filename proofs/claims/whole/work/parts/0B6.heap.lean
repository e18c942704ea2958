section FLH
variable {l : Launch} {D : va_G} {G : ClassId × ClassId × ClassId} {w : fl_V} {Ls : Nat} {xs : Nat → Int32} {p : Program} {e : Env} {R : Room} {s : State} {m : MethodId} {args : Array Value} {below : List Frame} {meth : Method} {c : Code} {Q : State → Prop} {k0 s0 mid pc : Nat} {L : fl_L} {st : List Value} {h : fl_H} {o : fl_O}
variable {nx : Nat → fl_L → List Value → fl_H → Option fl_O} {cl : Nat → List Value → fl_H → Option fl_O}
set_option maxHeartbeats 1000000 in
set_option maxRecDepth 20000 in
theorem fl_one6 {len a b c9 d9 p9 : Nat} {x9 : Int32} {q9 : Int64} {sw : List (Int32 × Nat)} {lv : Option (List Bool)} (hC : fl_Cx l D G w Ls xs mid p s m args meth c) (nxt : ∀ pc L st h, nx pc L st h = some o → fl_Wd l D G w Ls xs p e R s m args below meth c Q k0 s0 mid pc L st h)
    (hmn : ∀ pc L st h, nx pc L st h = some o → h.1.2.1 ≤ o.2.1.2.1 ∧ h.1.2.2.1 ≤ o.2.1.2.2.1) (hRc : o.2.1.2.1 ≤ R.cells + k0) (hRs : o.2.1.2.2.1 ≤ R.slots + s0)
    (hE : fl_End D G w Ls xs p l e R s m args below meth c Q k0 s0 mid o) (hT : fl_Thr D G w Ls xs p l e R s m args below meth c Q k0 s0 mid o) : ∀ ins : Instr,
    fl_grp ins = 6 → fl_ok mid pc (ins, len, a, b, c9, d9, p9, x9, q9, sw, lv) = true → fl_phi nx cl (fl_step (ins, len, a, b, c9, d9, p9, x9, q9, sw, lv) pc L st h) = some o → fl_Wd l D G w Ls xs p e R s m args below meth c Q k0 s0 mid pc L st h := by
  intro ins hgr hok hφ H locs cells slots ls hR hS hq hc hs hL
  obtain ⟨hx, hb, hr, hml, hown, hts, hlk, hnm, het, hst, hEX⟩ := id hC
  have hw : fl_fm w := hEX.2.2.2.2.2.2.2.2.2.2.2
  have hsA : w.1 ≤ s.heap.size := hEX.2.2.2.2.2.2.2.2.2.2.1
  have hA : ∀ q, s.heap.size ≤ q → fl_Af w q := fun q z => Nat.le_trans hsA z
  have hz : ¬ (fl_phi nx cl none = some o) := fun z => by cases z
  cases ins
  case iastore =>
    simp only [fl_ok, Bool.and_eq_true, decide_eq_true_eq] at hok
    obtain ⟨hd, h1⟩ := hok
    subst h1
    obtain ⟨k, i, v, r, hst2, hφ⟩ := fl_rii_inv (z := fun q => fl_phi nx cl q = some o) hz hφ
    subst hst2
    obtain ⟨g1, hφ⟩ := fl_phi_ng hφ
    simp only [Bool.and_eq_true, decide_eq_true_eq] at g1
    have g2 := fl_in_vp g1.2
    obtain ⟨n, hkd⟩ : ∃ n, fl_k h k = (2, n) := ⟨(fl_k h k).2, by rw [← g1.1]⟩
    rw [hkd] at g2
    have hkn : k < h.1.1 := hR.inner (by rw [hkd]; show 2 ≠ 0; decide) (by rw [hkd]; show 2 < 5; decide)
    refine W.eq (g2 := F0 m pc ls (.int v :: .int i :: .ref (w.1 + k) :: r.map (fl_cv w))) (by rw [List.map_cons, List.map_cons, List.map_cons]; show F0 m pc ls (_ :: _ :: Value.ref (fl_ad w k) :: _) = _; rw [hR.ad hkn]; rfl) ?_
    refine va_iast hx hb hEX.1 hR.1 fl_ws_D hS k 0 (by rw [fl_ws_at hkn, fl_cell_int hkd]) rfl g2 hd (fun H1 locs1 q1 q2 q3 => ?_)
    exact nxt _ _ _ _ hφ H1 locs1 cells slots ls (hR.upd hkn rfl rfl (fun j hj => fl_u_ne _ _ _ hj) (fun _ _ => rfl) (fun _ _ => rfl) (by rw [fl_cell_int (by exact hkd)]; rw [show fl_i (fl_si h k i.toNatClampNeg v) k = upd (fl_i h k) i.toNatClampNeg v from fl_u_self _ _ _ _]) q1) q3 hq hc hs hL
  case bastore =>
    simp only [fl_ok, Bool.and_eq_true, decide_eq_true_eq] at hok
    obtain ⟨hd, h1⟩ := hok
    subst h1
    obtain ⟨k, i, v, r, hst2, hφ⟩ := fl_rii_inv (z := fun q => fl_phi nx cl q = some o) hz hφ
    subst hst2
    obtain ⟨g1, hφ⟩ := fl_phi_ng hφ
    simp only [Bool.and_eq_true, decide_eq_true_eq] at g1
    have g2 := fl_in_vp g1.1.2
    obtain ⟨-, -, g3⟩ := fl_b01_ok g1.2
    obtain ⟨n, hkd⟩ : ∃ n, fl_k h k = (4, n) := ⟨(fl_k h k).2, by rw [← g1.1.1]⟩
    rw [hkd] at g2
    have hkn : k < h.1.1 := hR.inner (by rw [hkd]; show 4 ≠ 0; decide) (by rw [hkd]; show 4 < 5; decide)
    refine W.eq (g2 := F0 m pc ls (.int v :: .int i :: .ref (w.1 + k) :: r.map (fl_cv w))) (by rw [List.map_cons, List.map_cons, List.map_cons]; show F0 m pc ls (_ :: _ :: Value.ref (fl_ad w k) :: _) = _; rw [hR.ad hkn]; rfl) ?_
    refine va_zast hx hb hEX.1 hR.1 fl_ws_D hS k 2 (by rw [fl_ws_at hkn, fl_cell_bool hkd]) rfl g2 hd (fun H1 locs1 q1 q2 q3 => ?_)
    rw [g3] at q1
    exact nxt _ _ _ _ hφ H1 locs1 cells slots ls (hR.upd hkn rfl rfl (fun j hj => fl_u_ne _ _ _ hj) (fun _ _ => rfl) (fun _ _ => rfl) (by rw [fl_cell_bool (by exact hkd)]; rw [show fl_i (fl_si h k i.toNatClampNeg v) k = upd (fl_i h k) i.toNatClampNeg v from fl_u_self _ _ _ _]) q1) q3 hq hc hs hL
  case lastore =>
    simp only [fl_ok, Bool.and_eq_true, decide_eq_true_eq] at hok
    obtain ⟨hd, h1⟩ := hok
    subst h1
    obtain ⟨k, i, v, r, hst2, hφ⟩ := fl_ril_inv (z := fun q => fl_phi nx cl q = some o) hz hφ
    subst hst2
    obtain ⟨g1, hφ⟩ := fl_phi_ng hφ
    simp only [Bool.and_eq_true, decide_eq_true_eq] at g1
    have g2 := fl_in_vp g1.2
    obtain ⟨n, hkd⟩ : ∃ n, fl_k h k = (3, n) := ⟨(fl_k h k).2, by rw [← g1.1]⟩
    rw [hkd] at g2
    have hkn : k < h.1.1 := hR.inner (by rw [hkd]; show 3 ≠ 0; decide) (by rw [hkd]; show 3 < 5; decide)
    refine W.eq (g2 := F0 m pc ls (.long v :: .int i :: .ref (w.1 + k) :: r.map (fl_cv w))) (by rw [List.map_cons, List.map_cons, List.map_cons]; show F0 m pc ls (_ :: _ :: Value.ref (fl_ad w k) :: _) = _; rw [hR.ad hkn]; rfl) ?_
    refine va_last hx hb hEX.1 hR.1 fl_ws_D hS k 1 (by rw [fl_ws_at hkn, fl_cell_long hkd]) rfl g2 hd (fun H1 locs1 q1 q2 q3 => ?_)
    exact nxt _ _ _ _ hφ H1 locs1 cells slots ls (hR.upd hkn rfl rfl (fun _ _ => rfl) (fun j hj => fl_u_ne _ _ _ hj) (fun _ _ => rfl) (by rw [fl_cell_long (by exact hkd)]; rw [show fl_l (fl_sl h k i.toNatClampNeg v) k = vp_updL (fl_l h k) i.toNatClampNeg v from fl_u_self _ _ _ _]) q1) q3 hq hc hs hL
  all_goals (simp [fl_grp] at hgr)
end FLH
