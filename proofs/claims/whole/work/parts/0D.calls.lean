/-! ONE STEP of the abstract machine is a step of the machine: calls -/
section FLD
variable {l : Launch} {D : va_G} {G : ClassId × ClassId × ClassId} {w : fl_V} {Ls : Nat} {xs : Nat → Int32} {p : Program} {e : Env} {R : Room} {s : State} {m : MethodId} {args : Array Value} {below : List Frame} {meth : Method} {c : Code} {Q : State → Prop} {k0 s0 mid pc : Nat} {L : fl_L} {st : List Value} {h : fl_H} {o : fl_O}
variable {nx : Nat → fl_L → List Value → fl_H → Option fl_O} {cl : Nat → List Value → fl_H → Option fl_O}
theorem fl_near {i a : Nat} (hN : ∀ x ∈ fl_nest, va_Nw (.methodLinkNest x.1 x.2.1 x.2.2.1 x.2.2.2) s) (h : fl_nest.any (fun z => decide (z.1 = (fl_y mid).cls) && decide (z.2.1 = i) && decide (z.2.2.1 = fl_y a)) = true) : ∃ host, va_Nw (.methodLinkNest (fl_y mid).cls i (fl_y a) host) s := by
  obtain ⟨z, hz, he⟩ := List.any_eq_true.mp h
  simp only [Bool.and_eq_true, decide_eq_true_eq] at he
  obtain ⟨⟨e1, e2⟩, e3⟩ := he
  have := hN z hz
  rw [e1, e2, e3] at this
  exact ⟨_, this⟩
set_option maxHeartbeats 1000000 in
set_option maxRecDepth 20000 in
theorem fl_one3 {len a b c9 d9 p9 : Nat} {x9 : Int32} {q9 : Int64} {sw : List (Int32 × Nat)} {lv : Option (List Bool)} (hC : fl_Cx l D G w Ls xs mid p s m args meth c) (nxt : ∀ pc L st h, nx pc L st h = some o → fl_Wd l D G w Ls xs p e R s m args below meth c Q k0 s0 mid pc L st h)
    (hmn : ∀ pc L st h, nx pc L st h = some o → h.1.2.1 ≤ o.2.1.2.1 ∧ h.1.2.2.1 ≤ o.2.1.2.2.1) (hRc : o.2.1.2.1 ≤ R.cells + k0) (hRs : o.2.1.2.2.1 ≤ R.slots + s0) (hRf : mid ≤ R.frames) (hRl : 64 * mid ≤ R.locals)
    (hcl : ∀ a as h r, a < mid → fl_mok a = true → fl_cat as ≤ fl_mx a → cl a as h = some r → fl_Ct l D G w Ls xs a as h r) (hno : ∀ as h, cl 9999 as h = none) : ∀ ins : Instr,
    fl_grp ins = 3 → fl_ok mid pc (ins, len, a, b, c9, d9, p9, x9, q9, sw, lv) = true → fl_phi nx cl (fl_step (ins, len, a, b, c9, d9, p9, x9, q9, sw, lv) pc L st h) = some o → fl_Wd l D G w Ls xs p e R s m args below meth c Q k0 s0 mid pc L st h := by
  intro ins hgr hok hφ H locs cells slots ls hR hS hq hc hs hL
  obtain ⟨hx, hb, hr, hml, hown, hts, hlk, hnm, het, hst, hEX⟩ := id hC
  have hw : fl_fm w := hEX.2.2.2.2.2.2.2.2.2.2.2
  have hz : ¬ (fl_phi nx cl none = some o) := fun z => by cases z
  have S : CallFix p m c (fl_bytes mid) (fl_mx mid) s args fl_T (fl_y mid).cls := ⟨hx, hb, hml, hown, hts⟩
  have hpre : ∀ as : List Value, ∀ T : State, T.heap = H → Stand p l e R s m args below meth c T locs cells slots → ∀ U : State, U.heap = H → s.WarmedH U.vm → fl_Pc D G w Ls xs as h (as.map (fl_cv w)).toArray U := by
    intro as T hT X U hU hW
    refine ⟨rfl, by rw [hU]; exact hR, by rw [hU]; exact hEX.to hW hS.1 hS.2.1, fun hx => ?_⟩
    rw [hU, fl_size hEX hR hS hq hc hT X hx, hR.2.1 hx]
  cases ins
  case invokestatic i =>
    simp only [fl_ok, Bool.and_eq_true, Bool.or_eq_true, decide_eq_true_eq] at hok
    obtain ⟨hd, h1, hk⟩ := hok
    subst h1
    have hφ : fl_phi nx cl (fl_call (.invokestatic i, 3, a, b, c9, d9, p9, x9, q9, sw, lv) pc L st h) = some o := hφ
    obtain ⟨as, r, hpop, hkind, hcat, hcas, hsw, haft⟩ := fl_phi_call hφ
    obtain ⟨q, hq1, hq2⟩ := fl_aft_inv haft
    rcases hk with hk | hk
    · subst hk
      rw [hno] at hq1; cases hq1
    obtain ⟨⟨⟨⟨⟨⟨k1, k2⟩, k3⟩, kd⟩, k4⟩, k5⟩, k6⟩ := hk
    subst k5
    obtain ⟨v, hv, hn⟩ : ∃ v, q.1 = some v ∧ nx (pc + 3) L (v.toList ++ r) q.2 = some o := by
      rcases hq2 with z | ⟨-, x, t, l9, z, -⟩
      · exact z
      · cases z
    obtain ⟨c1, c2, c3, cM, -⟩ := hcl a as h q k1 k2 (Nat.le_trans hcas kd) hq1
    obtain ⟨n1, n2⟩ := hmn _ _ _ _ hn
    obtain ⟨m1, m2, m3, m4, m5⟩ := fl_mok_spec k2
    obtain ⟨l9, e1, e2, e3⟩ := fl_pop_eq _ _ _ _ _ hpop
    rw [List.append_nil] at e1
    subst e1
    subst e3
    have hfr : (fl_rm a (q.2.1.2.1 - h.1.2.1) (q.2.1.2.2.1 - h.1.2.2.1)).frames + 1 ≤ R.frames ∧ 8 + (fl_mx a + 11) + (fl_rm a (q.2.1.2.1 - h.1.2.1) (q.2.1.2.2.1 - h.1.2.2.1)).locals ≤ R.locals := ⟨by show a + 1 ≤ _; omega, by show 8 + (fl_mx a + 11) + 64 * a ≤ _; omega⟩
    have hf : cells + (q.2.1.2.1 - h.1.2.1) ≤ R.cells ∧ slots + (q.2.1.2.2.1 - h.1.2.2.1) ≤ R.slots := by omega
    have hstk : ((as.reverse ++ r).map (fl_cv w)) = (as.map (fl_cv w)).reverse ++ r.map (fl_cv w) := by rw [List.map_append, List.map_reverse]
    have hWt : 2 * (F0 m pc ls ((as.reverse ++ r).map (fl_cv w))).monitorRoom + ((r.map (fl_cv w)).map fun v => v.category).sum ≤ 8 := by
      rw [fl_cat_eq hw]
      exact Nat.le_trans (Nat.le_of_eq (Nat.zero_add _)) hcat
    have ret : ∀ (H1 : Heap) (locs1 : List Loc), fl_R D G w Ls xs q.2 H1 → va_S (fl_Af w) s.heap H1 locs1 → W p l e R s m args below meth c H1 locs1 (cells + (q.2.1.2.1 - h.1.2.1)) (slots + (q.2.1.2.2.1 - h.1.2.2.1)) Q (F0 m (pc + 3) ls ((v.toList ++ r).map (fl_cv w))) :=
      fun H1 locs1 hR1 hS1 => nxt _ _ _ _ hn H1 locs1 _ _ ls hR1 hS1 (fun hx => hq (c3 hx)) (by omega) (by omega) hL
    intro T hT X
    split at k6
    · by_cases hh : fl_hh a = []
      · exact fl_back (va_runS (g := F0 m pc ls ((as.reverse ++ r).map (fl_cv w))) S (cM v hv) (va_cwS b hts (fl_giS m1 (fl_t_mem k6) (fl_tm_mem k4) m2) (fl_wd_nil hh) rfl rfl ⟨m3.1, m3.2, k3⟩ hfr) ⟨fl_blind, hpre as T hT X⟩ rfl (by rw [List.length_map]; exact e2) hL.1 hstk hWt hd hf) hS hv ret T hT X
      · exact fl_back (vx_runSW (g := F0 m pc ls ((as.reverse ++ r).map (fl_cv w))) S (cM v hv) (vx_cwSW b hts (fl_giS m1 (fl_t_mem k6) (fl_tm_mem k4) m2) (fl_wd_cons hh) rfl rfl ⟨m3.1, m3.2, k3⟩ hfr) ⟨fl_blind, hpre as T hT X⟩ rfl (by rw [List.length_map]; exact e2) hL.1 hstk hWt hd hf) hS hv ret T hT X
    · simp only [Bool.and_eq_true, decide_eq_true_eq] at k6
      obtain ⟨hh, k6⟩ := k6
      obtain ⟨host, hnst⟩ := fl_near hEX.2.1.1 k6
      exact fl_back (va_runSN (g := F0 m pc ls ((as.reverse ++ r).map (fl_cv w))) S (cM v hv) ⟨va_cnB b hts (fl_gi m1) (fl_wd_nil hh) rfl rfl hnst (hts _ m2) ⟨m3.1, m3.2, k3⟩ hfr, hts _ (fl_tm_mem k4), trivial⟩ ⟨fl_blind, hpre as T hT X⟩ rfl (by rw [List.length_map]; exact e2) hL.1 hstk hWt hd hf) hS hv ret T hT X
    · cases k6
  case invokevirtual i =>
    simp only [fl_ok, Bool.and_eq_true, Bool.or_eq_true, decide_eq_true_eq] at hok
    obtain ⟨hd, h1, hk⟩ := hok
    subst h1
    have hφ : fl_phi nx cl (fl_call (.invokevirtual i, 3, a, b, c9, d9, p9, x9, q9, sw, lv) pc L st h) = some o := hφ
    obtain ⟨as, r, hpop, hkind, hcat, hcas, hsw, haft⟩ := fl_phi_call hφ
    obtain ⟨q, hq1, hq2⟩ := fl_aft_inv haft
    rcases hk with hk | hk
    · subst hk
      rw [hno] at hq1; cases hq1
    obtain ⟨⟨⟨⟨⟨⟨⟨⟨⟨⟨k1, k2⟩, k3⟩, kd⟩, k4⟩, k5⟩, k6⟩, k7⟩, k8⟩, k9⟩, ka⟩ := hk
    obtain ⟨c1, c2, c3, cM, cX⟩ := hcl a as h q k1 k2 (Nat.le_trans hcas kd) hq1
    obtain ⟨m1, m2, m3, m4, m5⟩ := fl_mok_spec k2
    obtain ⟨l9, e1, e2, e3⟩ := fl_pop_eq _ _ _ _ _ hpop
    rw [List.append_nil] at e1
    subst e1
    subst e3
    obtain ⟨k, l8, ek, cellB, hcB, hoB, hclB⟩ : ∃ k l8, as = Value.ref k :: l8 ∧ ∃ cellB : Cell, H[fl_ad w k]? = some cellB ∧ cellB.vm.isStatics = false ∧ s.vm.findClass (fl_y a).cls = some cellB.cls := by
      split at k9
      · simp only [Bool.and_eq_true, decide_eq_true_eq] at k9
        rcases hkind with z | z | ⟨-, k, l8, ek, hk⟩ | ⟨z, -⟩ | ⟨z, -⟩ | ⟨z, -⟩
        · exact absurd z (by decide)
        · exact absurd z (by decide)
        · have hkn : k < h.1.1 := hR.inner (by rw [hk]; exact Nat.one_ne_zero) (by rw [hk]; exact Nat.lt_of_sub_eq_succ rfl)
          obtain ⟨f1, -⟩ := fl_cls (d9 % 16) k9.1
          obtain ⟨cb, g1, g2, g3⟩ := va_recv hEX.1 hR.1 f1 (by rw [fl_ws_at hkn, fl_cell_obj hk])
          exact ⟨k, l8, ek, cb, by rw [hR.ad hkn]; exact g1, g2, by rw [← k9.2]; exact g3⟩
        · exact absurd z (by decide)
        · exact absurd z (by decide)
        · exact absurd z (by decide)
      · rcases hkind with z | z | ⟨z, -⟩ | ⟨-, k, l8, ek, hk⟩ | ⟨z, -⟩ | ⟨z, -⟩
        · exact absurd z (by decide)
        · exact absurd z (by decide)
        · exact absurd z (by decide)
        · rcases hR.outer (k := k) (by rw [hk]; decide) with ⟨f1, f2, f3⟩ | ⟨-, -, f3, -⟩ | ⟨-, f3, -⟩
          · obtain ⟨cb, g1, g2, g3⟩ := vk_recv hEX.2.2.2.1 (i := k - 1048576) (by omega) hS
            refine ⟨k, l8, ek, cb, ?_, g2, by rw [of_decide_eq_true k9]; exact g3⟩
            unfold fl_ad
            rw [if_neg (by omega), if_pos (by omega)]
            exact g1
          · rw [f3] at hk; exact absurd hk (by show ¬ 5 = 7; decide)
          · rw [f3] at hk; exact absurd hk (by show ¬ 6 = 7; decide)
        · exact absurd z (by decide)
        · exact absurd z (by decide)
      · cases k9
    subst ek
    have hlen : (l8.map (fl_cv w)).length = b - 1 := by
      rw [List.length_map, ← e2, List.length_cons]; rfl
    have hfr : (fl_rm a (q.2.1.2.1 - h.1.2.1) (q.2.1.2.2.1 - h.1.2.2.1)).frames + 1 ≤ R.frames ∧ 8 + (fl_mx a + 11) + (fl_rm a (q.2.1.2.1 - h.1.2.1) (q.2.1.2.2.1 - h.1.2.2.1)).locals ≤ R.locals := ⟨by show a + 1 ≤ _; omega, by show 8 + (fl_mx a + 11) + 64 * a ≤ _; omega⟩
    have hstk : (((Value.ref k :: l8).reverse ++ r).map (fl_cv w)) = (l8.map (fl_cv w)).reverse ++ Value.ref (fl_ad w k) :: r.map (fl_cv w) := by
      rw [List.reverse_cons, List.append_assoc, List.map_append, List.map_reverse]
      rfl
    have hWt : 2 * (F0 m pc ls (((Value.ref k :: l8).reverse ++ r).map (fl_cv w))).monitorRoom + ((r.map (fl_cv w)).map fun v => v.category).sum ≤ 8 := by
      rw [fl_cat_eq hw]
      exact Nat.le_trans (Nat.le_of_eq (Nat.zero_add _)) hcat
    have cw : CallW R s args (fl_y mid).cls (fl_y a).cls i (fl_y a) (fl_bytes a) (fl_mx a) (fl_ret a) (fl_wd a) (fl_rm a (q.2.1.2.1 - h.1.2.1) (q.2.1.2.2.1 - h.1.2.2.1)) (q.2.1.2.1 - h.1.2.1) (q.2.1.2.2.1 - h.1.2.2.1) (b - 1) :=
      ⟨callB_of (b - 1) hts (fl_gi m1) (fl_wd_nil k8) rfl rfl (hts _ m2) (hts _ (fl_t_mem k7)) ⟨m3.1, m3.2, k3⟩ hfr, hts _ (fl_tm_mem k5), hts _ (fl_tm_mem k6)⟩
    rcases hq2 with ⟨v, hv, hn⟩ | ⟨hv, x, t, l7, hsw9, hn⟩
    · obtain ⟨n1, n2⟩ := hmn _ _ _ _ hn
      have hf : cells + (q.2.1.2.1 - h.1.2.1) ≤ R.cells ∧ slots + (q.2.1.2.2.1 - h.1.2.2.1) ≤ R.slots := by omega
      intro T hT X
      exact fl_back (va_runV (g := F0 m pc ls (((Value.ref k :: l8).reverse ++ r).map (fl_cv w))) S (cM v hv) cw ⟨fl_blind, ⟨cellB, hcB, hoB, hclB⟩, hpre (Value.ref k :: l8) T hT X⟩ rfl hlen hL.1 hstk hWt hd hf) hS hv
        (fun H1 locs1 hR1 hS1 => nxt _ _ _ _ hn H1 locs1 _ _ ls hR1 hS1 (fun hx => hq (c3 hx)) (by omega) (by omega) hL) T hT X
    · obtain ⟨n1, n2⟩ := hmn _ _ _ _ hn
      have hf : cells + (q.2.1.2.1 - h.1.2.1) ≤ R.cells ∧ slots + (q.2.1.2.2.1 - h.1.2.2.1) ≤ R.slots := by omega
      subst hsw9
      have hL0 : L = [] := hsw.resolve_left (fun z => by cases z)
      subst hL0
      simp only [Bool.and_eq_true, decide_eq_true_eq] at ka
      obtain ⟨ka, kb⟩ := ka
      intro T hT X
      refine fl_backX (vx_runV (g := F0 m pc ls (((Value.ref k :: l8).reverse ++ r).map (fl_cv w))) S (cX hv) cw ⟨fl_blind, ⟨cellB, hcB, hoB, hclB⟩, hpre (Value.ref k :: l8) T hT X⟩ rfl hlen hL.1 hstk hWt hd hf) hS hv (fun H1 locs1 q7 ce hR1 hS1 hce hcv hcl9 => ?_) T hT X
      have go : ∀ ls' : Array Slot, lv_has ls' (fl_mx mid) [] ∨ True → ls'.size = fl_mx mid → lv_wf ls' → W p l e R s m args below meth c H1 locs1 (cells + (q.2.1.2.1 - h.1.2.1)) (slots + (q.2.1.2.2.1 - h.1.2.2.1)) Q (F0 m t ls' []) := fun ls' _ z1 z2 =>
        nxt _ _ _ _ hn H1 locs1 _ _ ls' hR1 hS1 (fun hx => hq (c3 hx)) (by omega) (by omega) ⟨z1, z2, fun i v hv => by cases hv⟩
      have hcast : (Cond.castable fl_nsee fl_nsee) ∈ lw_tbl → (Cond.castable fl_nsee fl_nsee).before args s = true := fun z => va_Nw.use rfl (hEX.2.1.2 _ z (by decide))
      split at kb
      · rename_i s0 e0 h0 ct j n hhh hdj
        simp only [Bool.and_eq_true, decide_eq_true_eq] at kb
        obtain ⟨⟨⟨⟨⟨⟨⟨b1, b2⟩, b3⟩, b4⟩, b5⟩, b6⟩, b7⟩, b8⟩ := kb
        subst b4
        have het := het (by rw [hhh]; exact List.cons_ne_nil _ _)
        rw [hhh] at hdj het
        simp only [fl_tx, Bool.and_eq_true, decide_eq_true_eq] at b7
        refine vx_catch (name := fl_nsee) hown [] _ [] het (fun z hz => nomatch hz) ?_ b8 (hts _ (fl_tm_mem b6)) (hcast b7.1) hce hcv hcl9 ?_
        · simp [covers, b1, b2]
        · refine lv_astore hx hb hdj hL.has b5 rfl (fun ls' hl' => ?_)
          have := go ls' (Or.inr trivial) hl'.1 hl'.2.1
          rw [← b3] at this
          exact this
      · rename_i s0 e0 h0 ct j n hhh hdj
        simp only [Bool.and_eq_true, decide_eq_true_eq] at kb
        obtain ⟨⟨⟨⟨⟨⟨⟨b1, b2⟩, b3⟩, b4⟩, b5⟩, b6⟩, b7⟩, b8⟩ := kb
        subst b4
        have het := het (by rw [hhh]; exact List.cons_ne_nil _ _)
        rw [hhh] at hdj het
        simp only [fl_tx, Bool.and_eq_true, decide_eq_true_eq] at b7
        refine vx_catch (name := fl_nsee) hown [] _ [] het (fun z hz => nomatch hz) ?_ b8 (hts _ (fl_tm_mem b6)) (hcast b7.1) hce hcv hcl9 ?_
        · simp [covers, b1, b2]
        · refine lv_astore_n hx hb hdj rfl hL.has b5 rfl (fun ls' hl' => ?_)
          have := go ls' (Or.inr trivial) hl'.1 hl'.2.1
          rw [← b3] at this
          exact this
      · cases kb
  case invokespecial i =>
    simp only [fl_ok, Bool.and_eq_true, decide_eq_true_eq] at hok
    obtain ⟨hd, h1, hk⟩ := hok
    subst h1
    cases a with
    | zero =>
      simp only [Bool.and_eq_true, decide_eq_true_eq] at hk
      obtain ⟨⟨⟨k1, k2⟩, k3⟩, k4⟩ := hk
      obtain ⟨x, r, hst2, hφ⟩ := fl_r1_inv (z := fun q => fl_phi nx cl q = some o) hz hφ
      subst hst2
      obtain ⟨g1, hφ⟩ := fl_phi_ng hφ
      refine W.objInit (g := F0 m pc ls ((Value.ref x :: r).map (fl_cv w))) hx hb hown (hts _ (fl_t_mem k1)) (hts _ (fl_tm_mem k2)) (hts _ (fl_tm_mem k3)) rfl (hL.1.trans hml.symm) (a := fl_ad w x) (rest := r.map (fl_cv w)) rfl hd (by omega) ?_ (nxt _ _ _ _ hφ H locs cells slots ls hR hS hq hc hs hL)
      have : 2 * (F0 m pc ls ((Value.ref x :: r).map (fl_cv w))).monitorRoom = 0 := rfl
      rw [fl_cat_eq hw, this]
      have := Nat.le_of_ble_eq_true g1
      omega
    | succ a =>
      simp only [Bool.and_eq_true, decide_eq_true_eq] at hk
      have hφ : fl_phi nx cl (fl_call (.invokespecial i, 3, a + 1, b, c9, d9, p9, x9, q9, sw, lv) pc L st h) = some o := hφ
      obtain ⟨as, r, hpop, hkind, hcat, hcas, hsw, haft⟩ := fl_phi_call hφ
      obtain ⟨q, hq1, hq2⟩ := fl_aft_inv haft
      obtain ⟨⟨⟨⟨⟨⟨⟨⟨⟨⟨k1, k2⟩, k3⟩, kd⟩, k4⟩, k5⟩, k6⟩, k7⟩, k8⟩, k9⟩, ka⟩ := hk
      subst k9
      obtain ⟨v, hv, hn⟩ : ∃ v, q.1 = some v ∧ nx (pc + 3) L (v.toList ++ r) q.2 = some o := by
        rcases hq2 with z | ⟨-, x, t, l9, z, -⟩
        · exact z
        · cases z
      obtain ⟨c1, c2, c3, cM, -⟩ := hcl (a + 1) as h q k1 k2 (Nat.le_trans hcas kd) hq1
      obtain ⟨n1, n2⟩ := hmn _ _ _ _ hn
      obtain ⟨m1, m2, m3, m4, m5⟩ := fl_mok_spec k2
      obtain ⟨l9, e1, e2, e3⟩ := fl_pop_eq _ _ _ _ _ hpop
      rw [List.append_nil] at e1
      subst e1
      subst e3
      have hfr : (fl_rm (a + 1) (q.2.1.2.1 - h.1.2.1) (q.2.1.2.2.1 - h.1.2.2.1)).frames + 1 ≤ R.frames ∧ 8 + (fl_mx (a + 1) + 11) + (fl_rm (a + 1) (q.2.1.2.1 - h.1.2.1) (q.2.1.2.2.1 - h.1.2.2.1)).locals ≤ R.locals := ⟨by show a + 1 + 1 ≤ _; omega, by show 8 + (fl_mx (a + 1) + 11) + 64 * (a + 1) ≤ _; omega⟩
      have hf : cells + (q.2.1.2.1 - h.1.2.1) ≤ R.cells ∧ slots + (q.2.1.2.2.1 - h.1.2.2.1) ≤ R.slots := by omega
      have hwd : fl_wd (a + 1) = Cond.code (fl_y (a + 1)) (fl_bytes (a + 1)) (fl_mx (a + 1)) none :: fl_T := by rw [fl_wd_nil k8, k7]
      intro T hT X
      split at ka
      · obtain ⟨k, l8, ek⟩ : ∃ k l8, as = Value.ref k :: l8 := by
          rcases hkind with z | z | ⟨z, -⟩ | ⟨z, -⟩ | ⟨-, k, l8, ek⟩ | ⟨z, -⟩
          · exact absurd z (by decide)
          · exact absurd z (by decide)
          · exact absurd z (by decide)
          · exact absurd z (by decide)
          · exact ⟨k, l8, ek⟩
          · exact absurd z (by decide)
        subst ek
        have hlen : (l8.map (fl_cv w)).length = b - 1 := by
          rw [List.length_map, ← e2, List.length_cons]; rfl
        have hstk : (((Value.ref k :: l8).reverse ++ r).map (fl_cv w)) = (l8.map (fl_cv w)).reverse ++ Value.ref (fl_ad w k) :: r.map (fl_cv w) := by
          rw [List.reverse_cons, List.append_assoc, List.map_append, List.map_reverse]
          rfl
        have hWt : 2 * (F0 m pc ls (((Value.ref k :: l8).reverse ++ r).map (fl_cv w))).monitorRoom + ((r.map (fl_cv w)).map fun v => v.category).sum ≤ 8 := by
          rw [fl_cat_eq hw]
          exact Nat.le_trans (Nat.le_of_eq (Nat.zero_add _)) hcat
        exact fl_back (va_runI (g := F0 m pc ls (((Value.ref k :: l8).reverse ++ r).map (fl_cv w))) S (cM v hv) ⟨callB_of (b - 1) hts (fl_gi m1) hwd rfl rfl (hts _ m2) (hts _ (fl_t_mem ka)) ⟨m3.1, m3.2, k3⟩ hfr, k6, hts _ (fl_tm_mem k5)⟩ ⟨fl_blind, hpre (Value.ref k :: l8) T hT X⟩ rfl hlen hL.1 hstk hWt hd hf) hS hv
          (fun H1 locs1 hR1 hS1 => nxt _ _ _ _ hn H1 locs1 _ _ ls hR1 hS1 (fun hx => hq (c3 hx)) (by omega) (by omega) hL) T hT X
      · obtain ⟨k, l8, ek⟩ : ∃ k l8, as = Value.ref k :: l8 := by
          rcases hkind with z | z | ⟨z, -⟩ | ⟨z, -⟩ | ⟨z, -⟩ | ⟨-, k, l8, ek⟩
          · exact absurd z (by decide)
          · exact absurd z (by decide)
          · exact absurd z (by decide)
          · exact absurd z (by decide)
          · exact absurd z (by decide)
          · exact ⟨k, l8, ek⟩
        subst ek
        have hlen : (l8.map (fl_cv w)).length = b - 1 := by
          rw [List.length_map, ← e2, List.length_cons]; rfl
        have hstk : (((Value.ref k :: l8).reverse ++ r).map (fl_cv w)) = (l8.map (fl_cv w)).reverse ++ Value.ref (fl_ad w k) :: r.map (fl_cv w) := by
          rw [List.reverse_cons, List.append_assoc, List.map_append, List.map_reverse]
          rfl
        have hWt : 2 * (F0 m pc ls (((Value.ref k :: l8).reverse ++ r).map (fl_cv w))).monitorRoom + ((r.map (fl_cv w)).map fun v => v.category).sum ≤ 8 := by
          rw [fl_cat_eq hw]
          exact Nat.le_trans (Nat.le_of_eq (Nat.zero_add _)) hcat
        obtain ⟨host, hnst⟩ := fl_near hEX.2.1.1 ka
        exact fl_back (va_runIN (g := F0 m pc ls (((Value.ref k :: l8).reverse ++ r).map (fl_cv w))) S (cM v hv) ⟨va_cnB (b - 1) hts (fl_gi m1) hwd rfl rfl hnst (hts _ m2) ⟨m3.1, m3.2, k3⟩ hfr, k6, hts _ (fl_tm_mem k5)⟩ ⟨fl_blind, hpre (Value.ref k :: l8) T hT X⟩ rfl hlen hL.1 hstk hWt hd hf) hS hv
          (fun H1 locs1 hR1 hS1 => nxt _ _ _ _ hn H1 locs1 _ _ ls hR1 hS1 (fun hx => hq (c3 hx)) (by omega) (by omega) hL) T hT X
      · cases ka
  all_goals (simp [fl_grp] at hgr)
end FLD
