/-! drawn: the drawing, and the class's side -/
theorem fl_B_not (q : Nat → Bool) : fl_B q ^^^ (-1) = fl_B (fun c => !q c) := by
  rw [fl_B_m1, fl_B_xor]
  exact fl_B_congr fun c _ => Bool.xor_true _
theorem fl_B_eq0 {q : Nat → Bool} : (fl_B q = 0) = (fl_any q 64 = false) := by
  apply propext
  constructor
  · intro e
    refine fl_any_ff (fun c hc => ?_)
    rw [← fl_hb_B q hc, e, fl_hb_0]
  · intro e
    rw [fl_B_0]
    exact fl_B_congr fun c hc => fl_any_none e hc
/-- a number, less one -/
def fl_m1 (m : Nat) : Int32 := if m = 0 then -Int32.ofNat 1 else Int32.ofNat (m - 1)
theorem fl_m1_s (m : Nat) : fl_m1 (m + 1) = Int32.ofNat m := by
  unfold fl_m1
  rw [if_neg (by omega), Nat.add_sub_cancel]
theorem fl_m1_int {m : Nat} (h : m < 1000) : (fl_m1 m).toInt = (m : Int) - 1 := by
  unfold fl_m1
  by_cases e : m = 0
  · subst e; rw [if_pos rfl]; decide
  · rw [if_neg e, fl_toI (by omega)]; omega
theorem fl_m1_lt {a b : Nat} (ha : a < 1000) (hb : b < 1000) : (fl_m1 a < fl_m1 b) = (a < b) := by
  rw [Int32.lt_iff_toInt_lt, fl_m1_int ha, fl_m1_int hb]
  exact propext (by omega)
theorem fl_m1_oi {b : Bool} {t : Nat} : fl_oi b t = fl_m1 (if b = true then t + 1 else 0) := by
  cases b
  · rfl
  · rw [if_pos rfl, fl_m1_s]; rfl
/-- the last below n; the greatest of first ones -/
def fl_cm (z : Nat → Bool) : Nat → Nat
  | 0 => 0
  | t + 1 => if z t = true then t + 1 else fl_cm z t
def fl_rmx (a : Nat → Bool) (v : Nat → Nat) : Nat → Nat
  | 0 => 0
  | f + 1 => max (fl_rmx a v f) (if a f = true then v f + 1 else 0)
theorem fl_cm_le {z : Nat → Bool} {M : Nat} : ∀ {n : Nat}, fl_cm z n ≤ M ↔ ∀ t, t < n → z t = true → t + 1 ≤ M
  | 0 => ⟨fun _ t ht => by omega, fun _ => Nat.zero_le M⟩
  | n + 1 => by
    rw [fl_cm]
    by_cases e : z n = true
    · rw [if_pos e]
      exact ⟨fun hM t ht _ => by omega, fun hM => hM n (by omega) e⟩
    · rw [if_neg e, fl_cm_le]
      refine ⟨fun hM t ht hz => ?_, fun hM t ht hz => hM t (by omega) hz⟩
      by_cases c : t = n
      · subst c; exact absurd hz e
      · exact hM t (by omega) hz
theorem fl_rmx_le {a : Nat → Bool} {v : Nat → Nat} {M : Nat} : ∀ {n : Nat}, fl_rmx a v n ≤ M ↔ ∀ f, f < n → a f = true → v f + 1 ≤ M
  | 0 => ⟨fun _ t ht => by omega, fun _ => Nat.zero_le M⟩
  | n + 1 => by
    rw [fl_rmx, Nat.max_le, fl_rmx_le]
    constructor
    · rintro ⟨h1, h2⟩ f hf ha
      by_cases c : f = n
      · subst c; rw [if_pos ha] at h2; exact h2
      · exact h1 f (by omega) ha
    · intro hM
      refine ⟨fun f hf ha => hM f (by omega) ha, ?_⟩
      by_cases e : a n = true
      · rw [if_pos e]; exact hM n (by omega) e
      · rw [if_neg e]; omega
theorem fl_last {lv : Nat → Bool} {q : Nat → Nat → Bool} {F n : Nat} (hl : ∀ c, lv c = decide (c < F)) (hF : F ≤ 64) : fl_cm (fun t => fl_any (fun c => (lv c && q c t) && !(lv c && fl_any (q c) t)) 64) n = fl_rmx (fun f => fl_any (q f) n) (fun f => fl_frst (q f) n) F := by
  have key : ∀ M, fl_cm (fun t => fl_any (fun c => (lv c && q c t) && !(lv c && fl_any (q c) t)) 64) n ≤ M ↔ fl_rmx (fun f => fl_any (q f) n) (fun f => fl_frst (q f) n) F ≤ M := by
    intro M
    rw [fl_cm_le, fl_rmx_le]
    constructor
    · intro h f hf ha
      have sp := fl_frst_sp ha
      have := h (fl_frst (q f) n) sp.1 (fl_any_iff.mpr ⟨f, by omega, by rw [hl f, decide_eq_true hf, sp.2.1, sp.2.2]; rfl⟩)
      exact this
    · intro h t ht hz
      obtain ⟨c, hc, hq⟩ := fl_any_iff.mp hz
      rw [hl c] at hq
      by_cases l : c < F
      · rw [decide_eq_true l, Bool.true_and, Bool.true_and, Bool.and_eq_true, Bool.not_eq_true'] at hq
        have fa := fl_frst_at hq.2 hq.1 ht
        have := h c l fa.1
        rw [fa.2] at this
        exact this
      · rw [decide_eq_false l, Bool.false_and, Bool.false_and] at hq
        cases hq
  exact Nat.le_antisymm ((key _).mpr (Nat.le_refl _)) ((key _).mp (Nat.le_refl _))
/-- the drawing -/
def fl_dw (s : Int32) : Nat → Int32
  | 0 => s
  | n + 1 => (fl_dw s n * Int32.ofNat 1103515245) + Int32.ofNat 12345
def fl_du (R : Int32) : Nat := (Int32.toUInt32 R).toNat / 65536
def fl_dx (s : Int32) (m : Nat) : Nat := 48 + fl_du (fl_dw s (m + 1)) % 2
def fl_dp (s : Int32) (g : Nat → Nat) (t : Nat) : Nat := fl_pt (fl_dx s) (t * g 1) (g 1)
theorem fl_du_lt (R : Int32) : fl_du R < 65536 := by
  have := (Int32.toUInt32 R).toNat_lt
  unfold fl_du
  omega
theorem fl_du_eq (R : Int32) : (Int32.toUInt32 R >>> (Int32.toUInt32 (Int32.ofNat 16) &&& Int32.toUInt32 (Int32.ofNat 31))).toInt32 = Int32.ofNat (fl_du R) := by
  rw [show Int32.toUInt32 (Int32.ofNat 16) &&& Int32.toUInt32 (Int32.ofNat 31) = (16 : UInt32) from by decide]
  have e : Int32.toUInt32 R >>> (16 : UInt32) = UInt32.ofNat (fl_du R) := by
    apply UInt32.toNat_inj.mp
    have l := fl_du_lt R
    rw [UInt32.toNat_shiftRight, UInt32.toNat_ofNat_of_lt' (show fl_du R < UInt32.size by rw [show UInt32.size = 4294967296 from rfl]; omega), show (16 : UInt32).toNat % 32 = 16 from by decide, Nat.shiftRight_eq_div_pow]
    rfl
  rw [e]
  rfl
theorem fl_dx_val {s : Int32} {m : Nat} : fl_sval (fl_dx s m) = fl_du (fl_dw s (m + 1)) % 2 := by
  unfold fl_dx fl_sval
  rcases Nat.mod_two_eq_zero_or_one (fl_du (fl_dw s (m + 1))) with e | e <;> rw [e] <;> rfl
theorem fl_dp_ok {s : Int32} {g : Nat → Nat} (w : fl_wf g) (n : Nat) : fl_okp g (fl_dp s g) n := fun _ _ => fl_pt_ok w.1.2.1
section
variable {k0 : Nat → Nat × Nat} {h : fl_H} {g : Nat → Nat} {c : Nat × Nat × Nat × Bool}
theorem fl_sk28 : fl_isN k0 28 := (fl_o27 (k0 := k0)).2.1
/-- one pattern drawn -/
theorem fc_249i (hg : fl_g k0 h) {p : Nat} (hp : p ≤ 4) (i0 : fl_i h 28 0 = Int32.ofNat p) (s n l : Int32) (B : Int64) (t : Nat) : fl_Rn fl_C 249 53 [some (.ref 0), none, some (.int n), some (.ref 28), some (.int (fl_dw s (t * p))), some (.long B), none, some (.int l), some (.int (Int32.ofNat t)), some (.int (Int32.ofNat 0)), some (.int (Int32.ofNat 0))] [] h = fl_Rn fl_C 249 53 [some (.ref 0), none, some (.int n), some (.ref 28), some (.int (fl_dw s (t * p + p))), some (.long B), none, some (.int l), some (.int (Int32.ofNat t)), some (.int (Int32.ofNat (fl_pt (fl_dx s) (t * p) p))), some (.int (Int32.ofNat p))] [] h := by
  refine fl_iter (fun k => fl_Rn fl_C 249 53 [some (.ref 0), none, some (.int n), some (.ref 28), some (.int (fl_dw s (t * p + k))), some (.long B), none, some (.int l), some (.int (Int32.ofNat t)), some (.int (Int32.ofNat (fl_pt (fl_dx s) (t * p) k))), some (.int (Int32.ofNat k))] [] h) p (fun k hk => ?_)
  have o := (fl_sk28 (k0 := k0)).1.1
  have dw : fl_dw s (t * p + (k + 1)) = (fl_dw s (t * p + k) * Int32.ofNat 1103515245) + Int32.ofNat 12345 := rfl
  have du := fl_du_eq ((fl_dw s (t * p + k) * Int32.ofNat 1103515245) + Int32.ofNat 12345)
  have dv : fl_sval (fl_dx s (t * p + k)) = fl_du ((fl_dw s (t * p + k) * Int32.ofNat 1103515245) + Int32.ofNat 12345) % 2 := fl_dx_val
  have ul := fl_du_lt ((fl_dw s (t * p + k) * Int32.ofNat 1103515245) + Int32.ofNat 12345)
  have o4 := fl_or4 k (by omega) (fl_pt (fl_dx s) (t * p) k) (fl_pt_lt k) (fl_sval (fl_dx s (t * p + k))) (by omega)
  rw [dv, show (31 : Int32) = Int32.ofNat 31 from rfl] at o4
  try dsimp only
  rw [dw, fl_pt, dv]
  rw [fbC_249_53]
  simp (disch := omega) only [hg.1, o, fl_lit, fl_nadd, fl_nmul, fl_ndiv, fl_nsub, fl_msub, fl_nle, fl_nlt, fl_neq, fl_nclamp, fl_nin, fl_ltT, fl_ltF, fl_leT, fl_leF, fl_eqT, fl_eqF, decide_true, decide_false, Bool.true_and, Bool.and_true, Bool.false_and, Bool.and_false, if_true, if_false, Bool.false_eq_true, Option.isSome_some, Option.getD_some, not_true_eq_false, not_false_eq_true, Option.toList_some, Option.toList_none, List.cons_append, List.nil_append, i0, du, o4]
/-- whether a fault shows at a tick that was not detected ahead of it -/
def fl_zt (g ps : Nat → Nat) (t : Nat) : Bool := fl_any (fun c => (fl_lvf g c && fl_shn g c ps t) && !(fl_lvf g c && fl_any (fl_shn g c ps) t)) 64
/-- those that show at one of the first ticks -/
def fl_ct (g ps : Nat → Nat) (t : Nat) : Int64 := fl_B (fun c => fl_lvf g c && fl_any (fl_shn g c ps) t)
theorem fl_ct_succ {g ps : Nat → Nat} {t : Nat} : (fl_ct g ps t ||| fl_B (fun c => fl_lvf g c && fl_shn g c ps t)) = fl_ct g ps (t + 1) := by
  unfold fl_ct
  rw [fl_B_or]
  exact fl_B_congr fun c _ => by rw [← Bool.and_or_distrib_left]; rfl
theorem fl_cmp0 {x y : Int64} : (lg_cmp x y = Int32.ofNat 0) = (x = y) := propext (lg_cmp_eq x y)
theorem fl_zt_eq {g ps : Nat → Nat} {t : Nat} : (lg_cmp (fl_B (fun c => fl_lvf g c && fl_shn g c ps t) &&& (fl_ct g ps t ^^^ (-1))) 0 = Int32.ofNat 0) = (fl_zt g ps t = false) := by
  unfold fl_ct fl_zt
  rw [fl_cmp0, fl_B_not, fl_B_and, fl_B_eq0]
theorem fl_cm_bd {z : Nat → Bool} : ∀ n, fl_cm z n ≤ n := fun n => fl_cm_le.mpr (fun t ht _ => ht)
theorem fo_drawn_a {r : Int64} (hg : fl_g k0 h) (w : fl_wf g) (d : fl_rn h 27 g r) (e1 : fl_i h 4 1 = Int32.ofNat 6) (s : Int32) {n : Nat} (n1 : 1 ≤ n) (n24 : n ≤ 24) : ∃ y, fl_df (fl_SB 183) h y ∧ fl_cl fl_C 249 [.ref 0, .int s, .int (Int32.ofNat n)] h = some (some (some (.int (Int32.ofNat (fl_cnt (fl_hb (fl_ct g (fl_dp s g) n)) 64)))), fl_ca2 y (fl_ct g (fl_dp s g) n) (Int32.toInt64 (fl_m1 (fl_cm (fl_zt g (fl_dp s g)) n)))) := by
  have N := fl_sk28 (k0 := k0)
  have b183 := fl_o183 (k0 := k0)
  have w4 : g 1 ≤ 4 := w.1.2.1
  have nt : fl_net h 28 g := d.1
  obtain ⟨y0, e27, d0, bn0⟩ := fc_bs hg N b183 w nt (by omega)
  have ntx : ∀ {x : fl_H}, fl_df (fl_SB 183) h x → fl_net x 28 g := fun a => fl_net_fr nt (fl_df_i a (fun j => by omega)) (fun q z1 z2 => fl_df_l a (fun j => by omega))
  have o27 : fl_KK k0 27 = (1, 7) ∧ fl_RR 27 0 = some 28 := ⟨(fl_o27 (k0 := k0)).1.1, (fl_o27 (k0 := k0)).1.2.1⟩
  have o183 := b183.1
  have o28 := N.1.1
  have o4 : fl_KK k0 4 = (1, 5) := fl_o4.1.1
  have st : fl_cl fl_C 249 [.ref 0, .int s, .int (Int32.ofNat n)] h = fl_Rn fl_C 249 41 [some (.ref 0), none, some (.int (Int32.ofNat n)), some (.ref 28), some (.int (fl_dw s (0 * g 1))), some (.long (fl_ct g (fl_dp s g) 0)), none, some (.int (fl_m1 (fl_cm (fl_zt g (fl_dp s g)) 0))), some (.int (Int32.ofNat 0))] [] y0 := by
    have z0 : fl_ct g (fl_dp s g) 0 = 0 := by
      unfold fl_ct
      rw [fl_B_0]
      exact fl_B_congr fun c _ => Bool.and_false _
    have z1 : fl_m1 (fl_cm (fl_zt g (fl_dp s g)) 0) = -Int32.ofNat 1 := rfl
    have z2 : fl_dw s (0 * g 1) = s := by rw [Nat.zero_mul]; rfl
    rw [z0, z1, z2]
    clear w d ntx bn0 d0 N b183
    rw [fbE_249]
    simp (disch := omega) only [hg.1, hg.2, fl_KF, fl_RF, o27, o28, o183, fl_lit, fl_nadd, fl_nmul, fl_ndiv, fl_nsub, fl_msub, fl_nle, fl_nlt, fl_neq, fl_nclamp, fl_nin, fl_ltT, fl_ltF, fl_leT, fl_leF, fl_eqT, fl_eqF, decide_true, decide_false, Bool.true_and, Bool.and_true, Bool.false_and, Bool.and_false, if_true, if_false, Bool.false_eq_true, Option.isSome_some, Option.getD_some, not_true_eq_false, not_false_eq_true, Option.toList_some, Option.toList_none, List.cons_append, List.nil_append, e27, fbP_249_38]
  rw [st]
  clear st e27
  suffices fl_to (fl_Rn fl_C 249 41 [some (.ref 0), none, some (.int (Int32.ofNat n)), some (.ref 28), some (.int (fl_dw s (0 * g 1))), some (.long (fl_ct g (fl_dp s g) 0)), none, some (.int (fl_m1 (fl_cm (fl_zt g (fl_dp s g)) 0))), some (.int (Int32.ofNat 0))] [] y0) (fun v z => v = some (.int (Int32.ofNat (fl_cnt (fl_hb (fl_ct g (fl_dp s g) n)) 64))) ∧ ∃ y, fl_df (fl_SB 183) h y ∧ z = fl_ca2 y (fl_ct g (fl_dp s g) n) (Int32.toInt64 (fl_m1 (fl_cm (fl_zt g (fl_dp s g)) n)))) by
    obtain ⟨v, z, e, rfl, y, dy, rfl⟩ := this
    exact ⟨y, dy, e⟩
  refine fl_loopT (F := fun t x => fl_Rn fl_C 249 41 [some (.ref 0), none, some (.int (Int32.ofNat n)), some (.ref 28), some (.int (fl_dw s (t * g 1))), some (.long (fl_ct g (fl_dp s g) t)), none, some (.int (fl_m1 (fl_cm (fl_zt g (fl_dp s g)) t))), some (.int (Int32.ofNat t))] [] x) (fun t x => fl_df (fl_SB 183) h x ∧ fl_bn x 183 g t (fl_dp s g)) n ?_ ?_ 0 y0 (Nat.zero_le _) ⟨d0, bn0 _⟩
  · rintro x ⟨dx, bn⟩
    have gx := fl_df_g hg dx
    have x1 : fl_i x 4 1 = Int32.ofNat 6 := by rw [(dx.2.2.2 4 1 (by omega)).1]; exact e1
    have t1 := fc_ca1 gx x1 (fl_ct g (fl_dp s g) n)
    have t2 := fc_ca2 gx x1 (fl_ct g (fl_dp s g) n) (Int32.toInt64 (fl_m1 (fl_cm (fl_zt g (fl_dp s g)) n)))
    have g1 := fl_df_g gx (fl_ca1_df (A := fl_ct g (fl_dp s g) n))
    have b := fc_126 (h := fl_ca2 x (fl_ct g (fl_dp s g) n) (Int32.toInt64 (fl_m1 (fl_cm (fl_zt g (fl_dp s g)) n)))) (fl_ct g (fl_dp s g) n)
    have fin : fl_Rn fl_C 249 41 [some (.ref 0), none, some (.int (Int32.ofNat n)), some (.ref 28), some (.int (fl_dw s (n * g 1))), some (.long (fl_ct g (fl_dp s g) n)), none, some (.int (fl_m1 (fl_cm (fl_zt g (fl_dp s g)) n))), some (.int (Int32.ofNat n))] [] x = some (some (some (.int (Int32.ofNat (fl_cnt (fl_hb (fl_ct g (fl_dp s g) n)) 64)))), fl_ca2 x (fl_ct g (fl_dp s g) n) (Int32.toInt64 (fl_m1 (fl_cm (fl_zt g (fl_dp s g)) n)))) := by
      clear w d ntx bn dx bn0 d0 N b183
      generalize fl_ca2 x (fl_ct g (fl_dp s g) n) (Int32.toInt64 (fl_m1 (fl_cm (fl_zt g (fl_dp s g)) n))) = H2 at *
      generalize fl_ca1 x (fl_ct g (fl_dp s g) n) = H1 at *
      rw [fbC_249_41]
      simp (disch := omega) only [gx.1, gx.2, fl_KF, fl_RF, o4, fl_lit, fl_nadd, fl_nmul, fl_ndiv, fl_nsub, fl_msub, fl_nle, fl_nlt, fl_neq, fl_nclamp, fl_nin, fl_ltT, fl_ltF, fl_leT, fl_leF, fl_eqT, fl_eqF, decide_true, decide_false, Bool.true_and, Bool.and_true, Bool.false_and, Bool.and_false, if_true, if_false, Bool.false_eq_true, Option.isSome_some, Option.getD_some, not_true_eq_false, not_false_eq_true, Option.toList_some, Option.toList_none, List.cons_append, List.nil_append, t1, fbP_249_163, g1.1, g1.2, t2, fbP_249_173, b, fbP_249_178]
    exact ⟨_, _, fin, rfl, x, dx, rfl⟩
  · rintro t x ht ⟨dx, bn⟩ hy
    have gx := fl_df_g hg dx
    have nx := ntx dx
    have li := fc_249i (p := g 1) gx w4 nx.1.1 s (Int32.ofNat n) (fl_m1 (fl_cm (fl_zt g (fl_dp s g)) t)) (fl_ct g (fl_dp s g) t) t
    have pp : fl_pt (fl_dx s) (t * g 1) (g 1) = fl_dp s g t := rfl
    rw [pp, show t * g 1 + g 1 = (t + 1) * g 1 by rw [Nat.add_mul, Nat.one_mul]] at li
    have ok := fl_dp_ok (s := s) w (t + 1)
    have e110 : fl_cl fl_C 110 [.ref 28] x = some (some (some (.long (fl_B (fl_lvf g)))), x) := fc_110 gx N w nx
    obtain ⟨y, e116, dy, bny, bvy⟩ := fc_bt gx N b183 w nx (by omega) ok bn
    have gy := fl_df_g gx dy
    have e119 := fc_bsh gy N b183 w (ntx (fl_df_tr dx dy)) ok bvy
    have zt := fl_zt_eq (g := g) (ps := fl_dp s g) (t := t)
    have cs := fl_ct_succ (g := g) (ps := fl_dp s g) (t := t)
    have i0 : fl_i x 28 0 = Int32.ofNat (g 1) := nx.1.1
    have nx' : fl_Rn fl_C 249 41 [some (.ref 0), none, some (.int (Int32.ofNat n)), some (.ref 28), some (.int (fl_dw s (t * g 1))), some (.long (fl_ct g (fl_dp s g) t)), none, some (.int (fl_m1 (fl_cm (fl_zt g (fl_dp s g)) t))), some (.int (Int32.ofNat t))] [] x = fl_Rn fl_C 249 41 [some (.ref 0), none, some (.int (Int32.ofNat n)), some (.ref 28), some (.int (fl_dw s ((t + 1) * g 1))), some (.long (fl_ct g (fl_dp s g) (t + 1))), none, some (.int (fl_m1 (fl_cm (fl_zt g (fl_dp s g)) (t + 1)))), some (.int (Int32.ofNat (t + 1)))] [] y := by
      clear w d ntx bn dx bn0 d0 N b183 hy nx ok dy bny bvy
      rw [fbC_249_41]
      cases z : fl_zt g (fl_dp s g) t with
      | false =>
        have cm : fl_cm (fl_zt g (fl_dp s g)) (t + 1) = fl_cm (fl_zt g (fl_dp s g)) t := by rw [fl_cm, z]; rfl
        have zt' := zt.trans (eq_true z)
        rw [cm]
        simp (disch := omega) only [fl_lit, fl_nadd, fl_nmul, fl_ndiv, fl_nsub, fl_msub, fl_nle, fl_nlt, fl_neq, fl_nclamp, fl_nin, fl_ltT, fl_ltF, fl_leT, fl_leF, fl_eqT, fl_eqF, decide_true, decide_false, Bool.true_and, Bool.and_true, Bool.false_and, Bool.and_false, if_true, if_false, Bool.false_eq_true, Option.isSome_some, Option.getD_some, not_true_eq_false, not_false_eq_true, Option.toList_some, Option.toList_none, List.cons_append, List.nil_append, li]
        rw [fbC_249_53]
        simp (disch := omega) only [gx.1, gx.2, fl_KF, fl_RF, o28, o183, fl_lit, fl_nadd, fl_nmul, fl_ndiv, fl_nsub, fl_msub, fl_nle, fl_nlt, fl_neq, fl_nclamp, fl_nin, fl_ltT, fl_ltF, fl_leT, fl_leF, fl_eqT, fl_eqF, decide_true, decide_false, Bool.true_and, Bool.and_true, Bool.false_and, Bool.and_false, if_true, if_false, Bool.false_eq_true, Option.isSome_some, Option.getD_some, not_true_eq_false, not_false_eq_true, Option.toList_some, Option.toList_none, List.cons_append, List.nil_append, i0, e110, fbP_249_108, e116, fbP_249_111, gy.1, gy.2, e119, fbP_249_119, zt', cs]
      | true =>
        have cm : fl_cm (fl_zt g (fl_dp s g)) (t + 1) = t + 1 := by rw [fl_cm, z]; rfl
        have zt' := zt.trans (eq_false (fun y => by rw [z] at y; cases y))
        rw [cm, fl_m1_s]
        simp (disch := omega) only [fl_lit, fl_nadd, fl_nmul, fl_ndiv, fl_nsub, fl_msub, fl_nle, fl_nlt, fl_neq, fl_nclamp, fl_nin, fl_ltT, fl_ltF, fl_leT, fl_leF, fl_eqT, fl_eqF, decide_true, decide_false, Bool.true_and, Bool.and_true, Bool.false_and, Bool.and_false, if_true, if_false, Bool.false_eq_true, Option.isSome_some, Option.getD_some, not_true_eq_false, not_false_eq_true, Option.toList_some, Option.toList_none, List.cons_append, List.nil_append, li]
        rw [fbC_249_53]
        simp (disch := omega) only [gx.1, gx.2, fl_KF, fl_RF, o28, o183, fl_lit, fl_nadd, fl_nmul, fl_ndiv, fl_nsub, fl_msub, fl_nle, fl_nlt, fl_neq, fl_nclamp, fl_nin, fl_ltT, fl_ltF, fl_leT, fl_leF, fl_eqT, fl_eqF, decide_true, decide_false, Bool.true_and, Bool.and_true, Bool.false_and, Bool.and_false, if_true, if_false, Bool.false_eq_true, Option.isSome_some, Option.getD_some, not_true_eq_false, not_false_eq_true, Option.toList_some, Option.toList_none, List.cons_append, List.nil_append, i0, e110, fbP_249_108, e116, fbP_249_111, gy.1, gy.2, e119, fbP_249_119, zt', cs]
    rw [nx']
    exact hy y ⟨fl_df_tr dx dy, bny⟩
end
