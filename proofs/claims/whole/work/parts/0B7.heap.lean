section FLH
variable {l : Launch} {D : va_G} {G : ClassId × ClassId × ClassId} {w : fl_V} {Ls : Nat} {xs : Nat → Int32} {p : Program} {e : Env} {R : Room} {s : State} {m : MethodId} {args : Array Value} {below : List Frame} {meth : Method} {c : Code} {Q : State → Prop} {k0 s0 mid pc : Nat} {L : fl_L} {st : List Value} {h : fl_H} {o : fl_O}
variable {nx : Nat → fl_L → List Value → fl_H → Option fl_O} {cl : Nat → List Value → fl_H → Option fl_O}
set_option maxHeartbeats 1000000 in
set_option maxRecDepth 20000 in
theorem fl_one7 {len a b c9 d9 p9 : Nat} {x9 : Int32} {q9 : Int64} {sw : List (Int32 × Nat)} {lv : Option (List Bool)} (hC : fl_Cx l D G w Ls xs mid p s m args meth c) (nxt : ∀ pc L st h, nx pc L st h = some o → fl_Wd l D G w Ls xs p e R s m args below meth c Q k0 s0 mid pc L st h)
    (hmn : ∀ pc L st h, nx pc L st h = some o → h.1.2.1 ≤ o.2.1.2.1 ∧ h.1.2.2.1 ≤ o.2.1.2.2.1) (hRc : o.2.1.2.1 ≤ R.cells + k0) (hRs : o.2.1.2.2.1 ≤ R.slots + s0)
    (hE : fl_End D G w Ls xs p l e R s m args below meth c Q k0 s0 mid o) (hT : fl_Thr D G w Ls xs p l e R s m args below meth c Q k0 s0 mid o) : ∀ ins : Instr,
    fl_grp ins = 7 → fl_ok mid pc (ins, len, a, b, c9, d9, p9, x9, q9, sw, lv) = true → fl_phi nx cl (fl_step (ins, len, a, b, c9, d9, p9, x9, q9, sw, lv) pc L st h) = some o → fl_Wd l D G w Ls xs p e R s m args below meth c Q k0 s0 mid pc L st h := by
  intro ins hgr hok hφ H locs cells slots ls hR hS hq hc hs hL
  obtain ⟨hx, hb, hr, hml, hown, hts, hlk, hnm, het, hst, hEX⟩ := id hC
  have hw : fl_fm w := hEX.2.2.2.2.2.2.2.2.2.2.2
  have hsA : w.1 ≤ s.heap.size := hEX.2.2.2.2.2.2.2.2.2.2.1
  have hA : ∀ q, s.heap.size ≤ q → fl_Af w q := fun q z => Nat.le_trans hsA z
  have hz : ¬ (fl_phi nx cl none = some o) := fun z => by cases z
  cases ins
  case new i =>
    simp only [fl_ok, Bool.and_eq_true, decide_eq_true_eq] at hok
    obtain ⟨hd, h1, h2⟩ := hok
    subst h1
    match c9, h2, hφ with
    | 0, h2, hφ =>
      simp only [Bool.and_eq_true, decide_eq_true_eq] at h2
      obtain ⟨⟨⟨⟨a1, a2⟩, a3⟩, a4⟩, a5⟩ := h2
      obtain ⟨g1, hφ⟩ := fl_phi_ng hφ
      simp only [Bool.and_eq_true, decide_eq_true_eq] at g1
      obtain ⟨e1, ⟨ty0, e2⟩, e3, e4, e5⟩ := fl_cls a a1
      obtain ⟨m1, m2⟩ := hmn _ _ _ _ hφ
      have m1 : h.1.2.1 + 1 ≤ o.2.1.2.1 := m1
      have m2 : h.1.2.2.1 + b ≤ o.2.1.2.2.1 := m2
      have hKn := hEX.1.1 a _ e1
      intro T hT X
      have hsz := fl_size hEX hR hS hq hc hT X g1.1
      refine W.newcK (g := F0 m pc ls (st.map (fl_cv w))) hx hb hown (hts _ (fl_t_mem a3)) (hts _ (fl_tm_mem a4)) (hts _ (fl_tm_mem a5)) rfl hd (by omega) (by omega) hKn.2.1 hsz (fun H1 kC hkC f1 f2 f3 => ?_) T hT X
      have hcell : fl_cell G w (fl_mk h (1, a) b) h.1.1 = .inr (a, fl_fs w (fl_mk h (1, a) b) h.1.1 (fl_ft a) 0) := fl_cell_obj fl_mk_eq.1
      have hob : va_at D vwCl (w.1 + h.1.1, .inr (a, fl_fs w (fl_mk h (1, a) b) h.1.1 (fl_ft a) 0)) H1 := by
        refine ⟨_, e1, (u_born ty0 hts e4 hKn hkC f1 e2).to (fun j hj => ?_)⟩
        have hj' : j < (fl_cl0 a).2.2 := hj
        have hall := List.all_eq_true.mp (fl_cls2 a a1) j (List.mem_range.mpr hj')
        rw [e2 j hj'] at hall
        obtain ⟨t, ht⟩ : ∃ t, (fl_ft a)[j]? = some t := ⟨_, List.getElem?_eq_getElem (by rw [e5]; exact hj')⟩
        rw [ht] at hall
        have hall : defaultValue (ty0 j) = fl_dv t := of_decide_eq_true hall
        rw [hall]
        show _ = (fl_fs w (fl_mk h (1, a) b) h.1.1 (fl_ft a) 0).getD j .null
        rw [List.getD_eq_getElem?_getD, fl_fget ht, Option.getD_some]
        obtain ⟨-, q1, q2, q3⟩ := fl_mk_eq (h := h) (kd := (1, a)) (n := b)
        have key : ∀ t : Nat, fl_dv t = fl_fv w (fl_mk h (1, a) b) h.1.1 j t := by
          intro t
          unfold fl_fv
          rw [q1, q2, q3]
          match t with
          | 0 => rfl
          | 1 => rfl
          | 2 => rfl
          | _ + 3 => rfl
        exact key t
      have hR' := hR.mk (n := b) (kd := (1, a)) Nat.one_pos (by show 1 < 5; decide) g1.2 hsz hcell (fun q hq => f3 q (by rw [← hsz]; exact hq)) hob
      have hS' : va_S (fl_Af w) s.heap H1 locs := ⟨by rw [f2]; have := hS.1; omega, fun q h1 h2 => (f3 q (by have := hS.1; omega)).trans (hS.2.1 q h1 h2), hS.2.2⟩
      have := nxt _ _ _ _ hφ H1 locs (cells + 1) (slots + b) ls hR' hS' hq (by show cells + 1 + k0 = h.1.2.1 + 1; omega) (by show slots + b + s0 = h.1.2.2.1 + b; omega) hL
      rw [List.map_cons] at this
      have e9 : fl_cv w (.ref h.1.1) = .ref (w.1 + h.1.1) := by
        show Value.ref (fl_ad w h.1.1) = _
        unfold fl_ad
        rw [if_pos (by omega)]
      rw [e9] at this
      exact this
    | 1, h2, hφ =>
      obtain ⟨g1, hφ⟩ := fl_phi_dn hφ
      exact hT i pc st h L h2 (Nat.le_of_ble_eq_true g1) hφ.symm H locs cells slots ls hR hS hq hc hs hL
    | n + 2, h2, hφ => cases hφ
  all_goals (simp [fl_grp] at hgr)
end FLH
