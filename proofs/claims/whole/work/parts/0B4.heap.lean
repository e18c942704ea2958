section FLH
variable {l : Launch} {D : va_G} {G : ClassId × ClassId × ClassId} {w : fl_V} {Ls : Nat} {xs : Nat → Int32} {p : Program} {e : Env} {R : Room} {s : State} {m : MethodId} {args : Array Value} {below : List Frame} {meth : Method} {c : Code} {Q : State → Prop} {k0 s0 mid pc : Nat} {L : fl_L} {st : List Value} {h : fl_H} {o : fl_O}
variable {nx : Nat → fl_L → List Value → fl_H → Option fl_O} {cl : Nat → List Value → fl_H → Option fl_O}
set_option maxHeartbeats 1000000 in
set_option maxRecDepth 20000 in
theorem fl_one4 {len a b c9 d9 p9 : Nat} {x9 : Int32} {q9 : Int64} {sw : List (Int32 × Nat)} {lv : Option (List Bool)} (hC : fl_Cx l D G w Ls xs mid p s m args meth c) (nxt : ∀ pc L st h, nx pc L st h = some o → fl_Wd l D G w Ls xs p e R s m args below meth c Q k0 s0 mid pc L st h)
    (hmn : ∀ pc L st h, nx pc L st h = some o → h.1.2.1 ≤ o.2.1.2.1 ∧ h.1.2.2.1 ≤ o.2.1.2.2.1) (hRc : o.2.1.2.1 ≤ R.cells + k0) (hRs : o.2.1.2.2.1 ≤ R.slots + s0)
    (hE : fl_End D G w Ls xs p l e R s m args below meth c Q k0 s0 mid o) (hT : fl_Thr D G w Ls xs p l e R s m args below meth c Q k0 s0 mid o) : ∀ ins : Instr,
    fl_grp ins = 4 → fl_ok mid pc (ins, len, a, b, c9, d9, p9, x9, q9, sw, lv) = true → fl_phi nx cl (fl_step (ins, len, a, b, c9, d9, p9, x9, q9, sw, lv) pc L st h) = some o → fl_Wd l D G w Ls xs p e R s m args below meth c Q k0 s0 mid pc L st h := by
  intro ins hgr hok hφ H locs cells slots ls hR hS hq hc hs hL
  obtain ⟨hx, hb, hr, hml, hown, hts, hlk, hnm, het, hst, hEX⟩ := id hC
  have hw : fl_fm w := hEX.2.2.2.2.2.2.2.2.2.2.2
  have hsA : w.1 ≤ s.heap.size := hEX.2.2.2.2.2.2.2.2.2.2.1
  have hA : ∀ q, s.heap.size ≤ q → fl_Af w q := fun q z => Nat.le_trans hsA z
  have hz : ¬ (fl_phi nx cl none = some o) := fun z => by cases z
  cases ins
  case putfield i =>
    simp only [fl_ok, Bool.and_eq_true, decide_eq_true_eq] at hok
    obtain ⟨hd, ⟨⟨⟨⟨⟨h1, h2⟩, h3⟩, h4⟩, h5⟩, h6⟩, h7⟩ := hok
    subst h1
    match c9, h4, h7, hφ with
    | 0, h4, h7, hφ =>
      match st, hφ with
      | .int v :: .ref k :: r, hφ =>
        obtain ⟨g1, hφ⟩ := fl_phi_ng hφ
        refine fl_putf (v := .int v) (h' := fl_si h k b v) (ty := .int) hC hR hS (of_decide_eq_true g1) h2 h3 h4 h5 h6 (of_decide_eq_true h7) rfl rfl hd rfl rfl (fun j hj => fl_u_ne _ _ _ hj) (fun _ _ => rfl) (fun _ _ => rfl) (by show Value.int (fl_u h.2.2.2.1 k b v k b) = _; rw [fl_u_self]; dsimp only; rw [if_pos rfl]) (fun j u hj => fl_fv_si hj) (fun H1 locs1 q1 q2 => ?_)
        exact nxt _ _ _ _ hφ H1 locs1 cells slots ls q1 q2 hq hc hs hL
    | 3, h4, h7, hφ =>
      match st, hφ with
      | .int v :: .ref k :: r, hφ =>
        obtain ⟨g1, hφ⟩ := fl_phi_ng hφ
        simp only [Bool.and_eq_true, decide_eq_true_eq] at g1
        obtain ⟨n1, n2, -⟩ := fl_b01_ok g1.2
        refine fl_putf (v := .int v) (h' := fl_si h k b v) (ty := .boolean) hC hR hS g1.1 h2 h3 h4 h5 h6 (of_decide_eq_true h7) n1 n2 hd rfl rfl (fun j hj => fl_u_ne _ _ _ hj) (fun _ _ => rfl) (fun _ _ => rfl) (by show Value.int (fl_u h.2.2.2.1 k b v k b) = _; rw [fl_u_self]; dsimp only; rw [if_pos rfl]) (fun j u hj => fl_fv_si hj) (fun H1 locs1 q1 q2 => ?_)
        exact nxt _ _ _ _ hφ H1 locs1 cells slots ls q1 q2 hq hc hs hL
    | 1, h4, h7, hφ =>
      obtain ⟨k, v, r, hst2, hφ⟩ := fl_rl_inv (z := fun q => fl_phi nx cl q = some o) hz hφ
      subst hst2
      obtain ⟨g1, hφ⟩ := fl_phi_ng hφ
      refine fl_putf (v := .long v) (h' := fl_sl h k b v) (ty := .long) hC hR hS (of_decide_eq_true g1) h2 h3 h4 h5 h6 (of_decide_eq_true h7) rfl rfl hd rfl rfl (fun _ _ => rfl) (fun j hj => fl_u_ne _ _ _ hj) (fun _ _ => rfl) (by show Value.long (fl_u h.2.2.2.2 k b v k b) = _; rw [fl_u_self]; dsimp only; rw [if_pos rfl]) (fun j u hj => fl_fv_sl hj) (fun H1 locs1 q1 q2 => ?_)
      exact nxt _ _ _ _ hφ H1 locs1 cells slots ls q1 q2 hq hc hs hL
    | 2, h4, h7, hφ =>
      obtain ⟨k, v, r, hst2, hφ⟩ := fl_rr_inv (z := fun q => fl_phi nx cl q = some o) hz hφ
      subst hst2
      obtain ⟨g1, hφ⟩ := fl_phi_ng hφ
      simp only [Bool.and_eq_true, decide_eq_true_eq] at g1
      have hvv : fl_fv w (fl_sr h k b v) k b 2 = .ref (fl_ad w v) := by
        have e : fl_r (fl_sr h k b v) k b = some v := by
          show fl_u h.2.2.1 k b (some v) k b = _
          rw [fl_u_self]; dsimp only; rw [if_pos rfl]
        unfold fl_fv
        rw [e]; rfl
      have hgo : ∀ ty, parseFieldDescriptor ((fl_cl0 a).2.1 b).2.2.1 = some ty → narrow ty (.ref (fl_ad w v)) = .ref (fl_ad w v) → fits ty (.ref (fl_ad w v)) = true → W p l e R s m args below meth c H locs cells slots Q (F0 m pc ls ((Value.ref v :: Value.ref k :: r).map (fl_cv w))) := by
        intro ty t1 t2 t3
        refine fl_putf (v := .ref (fl_ad w v)) (h' := fl_sr h k b v) (ty := ty) hC hR hS g1.1 h2 h3 h4 h5 h6 t1 t2 t3 hd rfl rfl (fun _ _ => rfl) (fun _ _ => rfl) (fun j hj => fl_u_ne _ _ _ hj) hvv (fun j u hj => fl_fv_sr hj) (fun H1 locs1 q1 q2 => ?_)
        exact nxt _ _ _ _ hφ H1 locs1 cells slots ls q1 q2 hq hc hs hL
      have h7 : fl_isref (parseFieldDescriptor ((fl_cl0 a).2.1 b).2.2.1) = true := h7
      cases hty : parseFieldDescriptor ((fl_cl0 a).2.1 b).2.2.1 with
      | none => rw [hty] at h7; cases h7
      | some ty =>
        rw [hty] at h7
        cases ty with
        | object n => exact hgo _ hty rfl rfl
        | array t => exact hgo _ hty rfl rfl
        | _ => cases h7
    | n + 4, h4, h7, hφ => cases hφ
  all_goals (simp [fl_grp] at hgr)
end FLH
