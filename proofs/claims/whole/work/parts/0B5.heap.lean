section FLH
variable {l : Launch} {D : va_G} {G : ClassId × ClassId × ClassId} {w : fl_V} {Ls : Nat} {xs : Nat → Int32} {p : Program} {e : Env} {R : Room} {s : State} {m : MethodId} {args : Array Value} {below : List Frame} {meth : Method} {c : Code} {Q : State → Prop} {k0 s0 mid pc : Nat} {L : fl_L} {st : List Value} {h : fl_H} {o : fl_O}
variable {nx : Nat → fl_L → List Value → fl_H → Option fl_O} {cl : Nat → List Value → fl_H → Option fl_O}
set_option maxHeartbeats 1000000 in
set_option maxRecDepth 20000 in
theorem fl_one5 {len a b c9 d9 p9 : Nat} {x9 : Int32} {q9 : Int64} {sw : List (Int32 × Nat)} {lv : Option (List Bool)} (hC : fl_Cx l D G w Ls xs mid p s m args meth c) (nxt : ∀ pc L st h, nx pc L st h = some o → fl_Wd l D G w Ls xs p e R s m args below meth c Q k0 s0 mid pc L st h)
    (hmn : ∀ pc L st h, nx pc L st h = some o → h.1.2.1 ≤ o.2.1.2.1 ∧ h.1.2.2.1 ≤ o.2.1.2.2.1) (hRc : o.2.1.2.1 ≤ R.cells + k0) (hRs : o.2.1.2.2.1 ≤ R.slots + s0)
    (hE : fl_End D G w Ls xs p l e R s m args below meth c Q k0 s0 mid o) (hT : fl_Thr D G w Ls xs p l e R s m args below meth c Q k0 s0 mid o) : ∀ ins : Instr,
    fl_grp ins = 5 → fl_ok mid pc (ins, len, a, b, c9, d9, p9, x9, q9, sw, lv) = true → fl_phi nx cl (fl_step (ins, len, a, b, c9, d9, p9, x9, q9, sw, lv) pc L st h) = some o → fl_Wd l D G w Ls xs p e R s m args below meth c Q k0 s0 mid pc L st h := by
  intro ins hgr hok hφ H locs cells slots ls hR hS hq hc hs hL
  obtain ⟨hx, hb, hr, hml, hown, hts, hlk, hnm, het, hst, hEX⟩ := id hC
  have hw : fl_fm w := hEX.2.2.2.2.2.2.2.2.2.2.2
  have hsA : w.1 ≤ s.heap.size := hEX.2.2.2.2.2.2.2.2.2.2.1
  have hA : ∀ q, s.heap.size ≤ q → fl_Af w q := fun q z => Nat.le_trans hsA z
  have hz : ¬ (fl_phi nx cl none = some o) := fun z => by cases z
  cases ins
  case arraylength =>
    simp only [fl_ok, Bool.and_eq_true, decide_eq_true_eq] at hok
    obtain ⟨hd, ⟨h1, h2⟩, h3⟩ := hok
    subst h1
    obtain ⟨k, r, hst2, hφ⟩ := fl_r1_inv (z := fun q => fl_phi nx cl q = some o) hz hφ
    subst hst2
    obtain ⟨g1, hφ⟩ := fl_phi_ng hφ
    have g1 := of_decide_eq_true g1
    have kk := nxt _ _ _ _ hφ H locs cells slots ls hR hS hq hc hs hL
    obtain ⟨n, hkd⟩ : ∃ n, fl_k h k = (a, n) := ⟨(fl_k h k).2, by rw [← g1]⟩
    rw [hkd] at kk
    by_cases h5 : a < 5
    · have hkn : k < h.1.1 := hR.inner (by rw [hkd]; show a ≠ 0; omega) (by rw [hkd]; exact h5)
      refine W.eq (g2 := F0 m pc ls (.ref (w.1 + k) :: r.map (fl_cv w))) (by rw [List.map_cons]; show F0 m pc ls (Value.ref (fl_ad w k) :: _) = _; rw [hR.ad hkn]) ?_
      match a, h2, h5, hkd with
      | 2, _, _, hkd => exact va_alen (x := (n, .inl (fl_i h k))) (v := Int32.ofNat n) hx hb hEX.1 hR.1 k 0 (by rw [fl_ws_at hkn, fl_cell_int hkd]) rfl rfl hd kk
      | 3, _, _, hkd => exact va_alen (x := (n, .inr (.inl (fl_l h k)))) (v := Int32.ofNat n) hx hb hEX.1 hR.1 k 1 (by rw [fl_ws_at hkn, fl_cell_long hkd]) rfl rfl hd kk
      | 4, _, _, hkd => exact va_alen (x := (n, .inl (fl_i h k))) (v := Int32.ofNat n) hx hb hEX.1 hR.1 k 2 (by rw [fl_ws_at hkn, fl_cell_bool hkd]) rfl rfl hd kk
    · rcases hR.outer (k := k) (by rw [hkd]; show 5 ≤ a; omega) with ⟨k1, k2, k3⟩ | ⟨k1, k2, k3, -⟩ | ⟨k1, k3, -⟩
      · obtain ⟨z1, z2⟩ := Prod.mk.inj (hkd.symm.trans k3)
        omega
      · obtain ⟨z1, z2⟩ := Prod.mk.inj (hkd.symm.trans k3)
        have a1 : fl_ad w k = w.2.2.1 (k - 1048592) := by
          unfold fl_ad; rw [if_neg (by omega), if_neg (by omega), if_pos (by omega)]
        refine W.eq (g2 := F0 m pc ls (.ref (w.2.2.1 (k - 1048592)) :: r.map (fl_cv w))) (by rw [List.map_cons]; show F0 m pc ls (Value.ref (fl_ad w k) :: _) = _; rw [a1]) ?_
        exact va_tlen (v := Int32.ofNat n) hx hb (hEX.2.2.2.1.1 (k - 1048592) (by omega)).2.2.2 hS (by rw [z2]) hd kk
      · obtain ⟨z1, z2⟩ := Prod.mk.inj (hkd.symm.trans k3)
        subst k1
        subst z2
        exact va_slen hx hb hEX.2.2.2.2.2.2.2.2.1 (Nat.lt_of_lt_of_le hEX.2.2.2.2.2.2.2.2.2.1 hsA) (Nat.not_le.mpr hEX.2.2.2.2.2.2.2.2.2.1) hS hd kk
  case iaload =>
    simp only [fl_ok, Bool.and_eq_true, Bool.or_eq_true, decide_eq_true_eq] at hok
    obtain ⟨hd, h1, h2⟩ := hok
    subst h1
    obtain ⟨k, i, r, hst2, hφ⟩ := fl_ri_inv (z := fun q => fl_phi nx cl q = some o) hz hφ
    subst hst2
    obtain ⟨g1, hφ⟩ := fl_phi_ng hφ
    simp only [Bool.and_eq_true, decide_eq_true_eq] at g1
    have g2 := fl_in_vp g1.2
    have kk := nxt _ _ _ _ hφ H locs cells slots ls hR hS hq hc hs hL
    obtain ⟨n, hkd⟩ : ∃ n, fl_k h k = (a, n) := ⟨(fl_k h k).2, by rw [← g1.1]⟩
    rw [hkd] at g2
    rcases h2 with rfl | rfl
    · have hkn : k < h.1.1 := hR.inner (by rw [hkd]; show 2 ≠ 0; decide) (by rw [hkd]; show 2 < 5; decide)
      refine W.eq (g2 := F0 m pc ls (.int i :: .ref (w.1 + k) :: r.map (fl_cv w))) (by rw [List.map_cons, List.map_cons]; show F0 m pc ls (_ :: Value.ref (fl_ad w k) :: _) = _; rw [hR.ad hkn]; rfl) ?_
      exact va_iald hx hb hEX.1 hR.1 k 0 (by rw [fl_ws_at hkn, fl_cell_int hkd]) rfl g2 hd kk
    · rcases hR.outer (k := k) (by rw [hkd]; show 5 ≤ 6; decide) with ⟨k1, k2, k3⟩ | ⟨k1, k2, k3, -⟩ | ⟨k1, k3, k4⟩
      · exact absurd (Prod.mk.inj (hkd.symm.trans k3)).1 (by decide)
      · exact absurd (Prod.mk.inj (hkd.symm.trans k3)).1 (by decide)
      · obtain ⟨z1, z2⟩ := Prod.mk.inj (hkd.symm.trans k3)
        subst k1
        subst z2
        rw [k4] at kk
        exact va_sld hx hb hEX.2.2.2.2.2.2.2.2.1 (Nat.lt_of_lt_of_le hEX.2.2.2.2.2.2.2.2.2.1 hsA) (Nat.not_le.mpr hEX.2.2.2.2.2.2.2.2.2.1) hS g2 hd kk
  case baload =>
    simp only [fl_ok, Bool.and_eq_true, Bool.or_eq_true, decide_eq_true_eq] at hok
    obtain ⟨hd, h1, h2⟩ := hok
    subst h1
    obtain ⟨k, i, r, hst2, hφ⟩ := fl_ri_inv (z := fun q => fl_phi nx cl q = some o) hz hφ
    subst hst2
    obtain ⟨g1, hφ⟩ := fl_phi_ng hφ
    simp only [Bool.and_eq_true, decide_eq_true_eq] at g1
    have g2 := fl_in_vp g1.2
    have kk := nxt _ _ _ _ hφ H locs cells slots ls hR hS hq hc hs hL
    obtain ⟨n, hkd⟩ : ∃ n, fl_k h k = (a, n) := ⟨(fl_k h k).2, by rw [← g1.1]⟩
    rw [hkd] at g2
    rcases h2 with rfl | rfl
    · have hkn : k < h.1.1 := hR.inner (by rw [hkd]; show 4 ≠ 0; decide) (by rw [hkd]; show 4 < 5; decide)
      refine W.eq (g2 := F0 m pc ls (.int i :: .ref (w.1 + k) :: r.map (fl_cv w))) (by rw [List.map_cons, List.map_cons]; show F0 m pc ls (_ :: Value.ref (fl_ad w k) :: _) = _; rw [hR.ad hkn]; rfl) ?_
      exact va_zald hx hb hEX.1 hR.1 k 2 (by rw [fl_ws_at hkn, fl_cell_bool hkd]) rfl g2 hd kk
    · rcases hR.outer (k := k) (by rw [hkd]; show 5 ≤ 5; decide) with ⟨k1, k2, k3⟩ | ⟨k1, k2, k3, k4⟩ | ⟨k1, k3, k4⟩
      · exact absurd (Prod.mk.inj (hkd.symm.trans k3)).1 (by decide)
      · obtain ⟨z1, z2⟩ := Prod.mk.inj (hkd.symm.trans k3)
        have g2 : vp_in i (fl_slen.getD (k - 1048592) 0) := by rw [← z2]; exact g2
        have a1 : fl_ad w k = w.2.2.1 (k - 1048592) := by
          unfold fl_ad; rw [if_neg (by omega), if_neg (by omega), if_pos (by omega)]
        rw [k4] at kk
        refine W.eq (g2 := F0 m pc ls (.int i :: .ref (w.2.2.1 (k - 1048592)) :: r.map (fl_cv w))) (by rw [List.map_cons, List.map_cons]; show F0 m pc ls (_ :: Value.ref (fl_ad w k) :: _) = _; rw [a1]; rfl) ?_
        exact va_tb hx hb (hEX.2.2.2.1.1 (k - 1048592) (by omega)).2.2.2 hS g2 rfl hd kk
      · exact absurd (Prod.mk.inj (hkd.symm.trans k3)).1 (by decide)
  case laload =>
    simp only [fl_ok, Bool.and_eq_true, decide_eq_true_eq] at hok
    obtain ⟨hd, h1⟩ := hok
    subst h1
    obtain ⟨k, i, r, hst2, hφ⟩ := fl_ri_inv (z := fun q => fl_phi nx cl q = some o) hz hφ
    subst hst2
    obtain ⟨g1, hφ⟩ := fl_phi_ng hφ
    simp only [Bool.and_eq_true, decide_eq_true_eq] at g1
    have g2 := fl_in_vp g1.2
    have kk := nxt _ _ _ _ hφ H locs cells slots ls hR hS hq hc hs hL
    obtain ⟨n, hkd⟩ : ∃ n, fl_k h k = (3, n) := ⟨(fl_k h k).2, by rw [← g1.1]⟩
    rw [hkd] at g2
    have hkn : k < h.1.1 := hR.inner (by rw [hkd]; show 3 ≠ 0; decide) (by rw [hkd]; show 3 < 5; decide)
    refine W.eq (g2 := F0 m pc ls (.int i :: .ref (w.1 + k) :: r.map (fl_cv w))) (by rw [List.map_cons, List.map_cons]; show F0 m pc ls (_ :: Value.ref (fl_ad w k) :: _) = _; rw [hR.ad hkn]; rfl) ?_
    exact va_lald hx hb hEX.1 hR.1 k 1 (by rw [fl_ws_at hkn, fl_cell_long hkd]) rfl g2 hd kk
  all_goals (simp [fl_grp] at hgr)
end FLH
