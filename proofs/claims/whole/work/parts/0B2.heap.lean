section FLH
variable {l : Launch} {D : va_G} {G : ClassId × ClassId × ClassId} {w : fl_V} {Ls : Nat} {xs : Nat → Int32} {p : Program} {e : Env} {R : Room} {s : State} {m : MethodId} {args : Array Value} {below : List Frame} {meth : Method} {c : Code} {Q : State → Prop} {k0 s0 mid pc : Nat} {L : fl_L} {st : List Value} {h : fl_H} {o : fl_O}
variable {nx : Nat → fl_L → List Value → fl_H → Option fl_O} {cl : Nat → List Value → fl_H → Option fl_O}
set_option maxHeartbeats 1000000 in
set_option maxRecDepth 20000 in
theorem fl_one2 {len a b c9 d9 p9 : Nat} {x9 : Int32} {q9 : Int64} {sw : List (Int32 × Nat)} {lv : Option (List Bool)} (hC : fl_Cx l D G w Ls xs mid p s m args meth c) (nxt : ∀ pc L st h, nx pc L st h = some o → fl_Wd l D G w Ls xs p e R s m args below meth c Q k0 s0 mid pc L st h)
    (hmn : ∀ pc L st h, nx pc L st h = some o → h.1.2.1 ≤ o.2.1.2.1 ∧ h.1.2.2.1 ≤ o.2.1.2.2.1) (hRc : o.2.1.2.1 ≤ R.cells + k0) (hRs : o.2.1.2.2.1 ≤ R.slots + s0)
    (hE : fl_End D G w Ls xs p l e R s m args below meth c Q k0 s0 mid o) (hT : fl_Thr D G w Ls xs p l e R s m args below meth c Q k0 s0 mid o) : ∀ ins : Instr,
    fl_grp ins = 2 → fl_ok mid pc (ins, len, a, b, c9, d9, p9, x9, q9, sw, lv) = true → fl_phi nx cl (fl_step (ins, len, a, b, c9, d9, p9, x9, q9, sw, lv) pc L st h) = some o → fl_Wd l D G w Ls xs p e R s m args below meth c Q k0 s0 mid pc L st h := by
  intro ins hgr hok hφ H locs cells slots ls hR hS hq hc hs hL
  obtain ⟨hx, hb, hr, hml, hown, hts, hlk, hnm, het, hst, hEX⟩ := id hC
  have hw : fl_fm w := hEX.2.2.2.2.2.2.2.2.2.2.2
  have hsA : w.1 ≤ s.heap.size := hEX.2.2.2.2.2.2.2.2.2.2.1
  have hA : ∀ q, s.heap.size ≤ q → fl_Af w q := fun q z => Nat.le_trans hsA z
  have hz : ¬ (fl_phi nx cl none = some o) := fun z => by cases z
  cases ins
  case getfield i =>
    simp only [fl_ok, Bool.and_eq_true, decide_eq_true_eq] at hok
    obtain ⟨hd, h1, h2⟩ := hok
    subst h1
    match c9, h2, hφ with
    | 0, h2, hφ =>
      simp only [Bool.and_eq_true, decide_eq_true_eq] at h2
      obtain ⟨k, r, hst2, hφ⟩ := fl_r1_inv (z := fun q => fl_phi nx cl q = some o) hz hφ
      subst hst2
      obtain ⟨g1, hφ⟩ := fl_phi_ng hφ
      exact fl_getf hC hR (of_decide_eq_true g1) h2.1.1.1 h2.1.1.2 h2.1.2 h2.2 hd (nxt _ _ _ _ hφ H locs cells slots ls hR hS hq hc hs hL)
    | 3, h2, hφ =>
      simp only [Bool.and_eq_true, decide_eq_true_eq] at h2
      obtain ⟨k, r, hst2, hφ⟩ := fl_r1_inv (z := fun q => fl_phi nx cl q = some o) hz hφ
      subst hst2
      obtain ⟨g1, hφ⟩ := fl_phi_ng hφ
      exact fl_getf hC hR (of_decide_eq_true g1) h2.1.1.1 h2.1.1.2 h2.1.2 h2.2 hd (nxt _ _ _ _ hφ H locs cells slots ls hR hS hq hc hs hL)
    | 1, h2, hφ =>
      simp only [Bool.and_eq_true, decide_eq_true_eq] at h2
      obtain ⟨k, r, hst2, hφ⟩ := fl_r1_inv (z := fun q => fl_phi nx cl q = some o) hz hφ
      subst hst2
      obtain ⟨g1, hφ⟩ := fl_phi_ng hφ
      exact fl_getf hC hR (of_decide_eq_true g1) h2.1.1.1 h2.1.1.2 h2.1.2 h2.2 hd (nxt _ _ _ _ hφ H locs cells slots ls hR hS hq hc hs hL)
    | 2, h2, hφ =>
      simp only [Bool.and_eq_true, decide_eq_true_eq] at h2
      obtain ⟨k, r, hst2, hφ⟩ := fl_r1_inv (z := fun q => fl_phi nx cl q = some o) hz hφ
      subst hst2
      obtain ⟨g1, hφ⟩ := fl_phi_ng hφ
      simp only [Bool.and_eq_true, decide_eq_true_eq] at g1
      refine fl_getf hC hR g1.1 h2.1.1.1 h2.1.1.2 h2.1.2 h2.2 hd ?_
      have e1 : fl_fv w h k b 2 = .ref (fl_ad w ((fl_r h k b).getD 0)) := by
        obtain ⟨q, hq2⟩ := Option.isSome_iff_exists.mp g1.2
        unfold fl_fv
        rw [hq2]; rfl
      rw [e1]
      exact nxt _ _ _ _ hφ H locs cells slots ls hR hS hq hc hs hL
    | 7, h2, hφ =>
      obtain ⟨k, r, hst2, hφ⟩ := fl_r1_inv (z := fun q => fl_phi nx cl q = some o) hz hφ
      subst hst2
      obtain ⟨g1, hφ⟩ := fl_phi_ng hφ
      have g1 := of_decide_eq_true g1
      rcases hR.outer (by rw [g1]; exact Nat.le_of_ble_eq_true rfl) with ⟨k1, k2, k3⟩ | ⟨-, -, k3, -⟩ | ⟨-, k3, -⟩
      · have a1 : fl_ad w k = w.2.1 (k - 1048576) := by
          unfold fl_ad; rw [if_neg (by omega), if_pos (by omega)]
        have a2 : fl_ad w (k + 16) = w.2.2.1 (k - 1048576) := by
          unfold fl_ad; rw [if_neg (by omega), if_neg (by omega), if_pos (by omega), show k + 16 - 1048592 = k - 1048576 by omega]
        refine W.eq (g2 := F0 m pc ls (.ref (w.2.1 (k - 1048576)) :: r.map (fl_cv w))) (by rw [List.map_cons]; show F0 m pc ls (Value.ref (fl_ad w k) :: _) = _; rw [a1]) ?_
        refine vk_getf hx hb (hEX.2.2.2.1.1 (k - 1048576) (by omega)).2.2.1 hS hown (hts _ (fl_t_mem h2)) (fun _ z => z) hd ?_
        rw [← a2]
        exact nxt _ _ _ _ hφ H locs cells slots ls hR hS hq hc hs hL
      · rw [k3] at g1; exact absurd g1 (by show ¬ 5 = 7; decide)
      · rw [k3] at g1; exact absurd g1 (by show ¬ 6 = 7; decide)
    | 8, h2, hφ =>
      obtain ⟨k, r, hst2, hφ⟩ := fl_r1_inv (z := fun q => fl_phi nx cl q = some o) hz hφ
      subst hst2
      obtain ⟨g1, hφ⟩ := fl_phi_ng hφ
      have g1 := of_decide_eq_true g1
      rcases hR.outer (by rw [g1]; exact Nat.le_of_ble_eq_true rfl) with ⟨k1, k2, k3⟩ | ⟨-, -, k3, -⟩ | ⟨-, k3, -⟩
      · have a1 : fl_ad w k = w.2.1 (k - 1048576) := by
          unfold fl_ad; rw [if_neg (by omega), if_pos (by omega)]
        refine W.eq (g2 := F0 m pc ls (.ref (w.2.1 (k - 1048576)) :: r.map (fl_cv w))) (by rw [List.map_cons]; show F0 m pc ls (Value.ref (fl_ad w k) :: _) = _; rw [a1]) ?_
        refine vk_getf hx hb (hEX.2.2.2.1.1 (k - 1048576) (by omega)).2.1 hS hown (hts _ (fl_t_mem h2)) (fun _ z => z) hd ?_
        exact nxt _ _ _ _ hφ H locs cells slots ls hR hS hq hc hs hL
      · rw [k3] at g1; exact absurd g1 (by show ¬ 5 = 7; decide)
      · rw [k3] at g1; exact absurd g1 (by show ¬ 6 = 7; decide)
    | 4, h2, hφ => cases hφ
    | 5, h2, hφ => cases hφ
    | 6, h2, hφ => cases hφ
    | n + 9, h2, hφ => cases hφ
  case getstatic i =>
    simp only [fl_ok, Bool.and_eq_true, decide_eq_true_eq] at hok
    obtain ⟨hd, h1, h2⟩ := hok
    subst h1
    match c9, h2, hφ with
    | 0, h2, hφ =>
      simp only [Bool.and_eq_true, decide_eq_true_eq] at h2
      refine va_gets hx hb hEX.2.2.2.2.1 hS hown (hts _ (fl_t_mem h2.2)) (fun _ z => z) hd ?_
      have := nxt _ _ _ _ (fl_phi_nx hφ) H locs cells slots ls hR hS hq hc hs hL
      rw [h2.1] at this
      exact this
    | 1, h2, hφ => exact va_gets hx hb hEX.2.2.2.2.2.1 hS hown (hts _ (fl_t_mem h2)) (fun _ z => z) hd (nxt _ _ _ _ (fl_phi_nx hφ) H locs cells slots ls hR hS hq hc hs hL)
    | n + 2, h2, hφ => cases hφ
  all_goals (simp [fl_grp] at hgr)
end FLH
