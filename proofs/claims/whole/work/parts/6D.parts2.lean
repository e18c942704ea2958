/-! parts: the reference's side -/
/-- the code of a circuit's values at the outputs -/
def fl_cd (g : Nat → Nat) (V : Nat → Nat → Nat) (f : Nat) : Nat → Nat
  | 0 => 0
  | j + 1 => 3 * fl_cd g V f j + V f (g (72 + j))
theorem fl_cd_lt {g : Nat → Nat} {V : Nat → Nat → Nat} (hV : ∀ c k, V c k ≤ 2) {f : Nat} : ∀ j, fl_cd g V f j < 3 ^ j
  | 0 => Nat.one_pos
  | j + 1 => by
    have := fl_cd_lt hV (g := g) (f := f) j
    have v := hV f (g (72 + j))
    rw [fl_cd, Nat.pow_succ]
    omega
theorem fl_cd_eq {g : Nat → Nat} {V : Nat → Nat → Nat} (hV : ∀ c k, V c k ≤ 2) {a b : Nat} : ∀ n, fl_cd g V a n = fl_cd g V b n ↔ ∀ j, j < n → V a (g (72 + j)) = V b (g (72 + j))
  | 0 => ⟨fun _ j hj => absurd hj (Nat.not_lt_zero j), fun _ => rfl⟩
  | n + 1 => by
    have ih := fl_cd_eq hV (g := g) (a := a) (b := b) n
    have v1 := hV a (g (72 + n))
    have v2 := hV b (g (72 + n))
    rw [fl_cd, fl_cd]
    constructor
    · intro e j hj
      by_cases c : j = n
      · subst c; omega
      · exact ih.mp (by omega) j (by omega)
    · intro e
      have e1 := ih.mpr (fun j hj => e j (by omega))
      have e2 := e n (by omega)
      omega
section
variable {k0 : Nat → Nat × Nat} {h : fl_H} {g : Nat → Nat} {c : Nat × Nat × Nat × Bool} {V : Nat → Nat → Nat} {s : Int64}
theorem fr_222 (hg : fl_g k0 h) (w : fl_wf g) (m : fl_mm h g) {n : Nat} (hn : n < 16) : fl_cl fl_C 222 [.ref 259, .int (Int32.ofNat n)] h = some (some (some (.int (Int32.ofNat (fl_pn (g 1) n)))), h) := by
  have w4 : g 1 ≤ 4 := w.1.2.1
  have e129 := fr_129h hg
  rw [m 1 (by omega)] at e129
  have lp := fl_iter (fun k => fl_Rn fl_C 222 4 [some (.ref 259), some (.int (Int32.ofNat n)), some (.int (Int32.ofNat (fl_pt (fl_px (g 1) n) 0 k))), some (.int (Int32.ofNat k))] [] h) (g 1) (fun k hk => by
    have sb := fl_shb (g 1 - 1 - k) (by omega) n hn
    have pv := fl_px_val (p := g 1) (n := n) (k := 0 + k)
    rw [Nat.zero_add] at pv
    have v2 := fl_sval_le (fl_px (g 1) n k)
    have o4 := fl_or4 k (by omega) (fl_pt (fl_px (g 1) n) 0 k) (fl_pt_lt k) (fl_sval (fl_px (g 1) n k)) (by omega)
    rw [show (31 : Int32) = Int32.ofNat 31 from rfl] at o4
    rw [← pv] at sb
    try dsimp only
    rw [fl_pt, Nat.zero_add]
    clear w m pv
    generalize fl_sval (fl_px (g 1) n k) = v at *
    generalize fl_pt (fl_px (g 1) n) 0 k = P at *
    rw [fbC_222_4]
    simp (disch := omega) only [hg.1, fl_KM, fl_RM, fl_lit, fl_nadd, fl_nmul, fl_ndiv, fl_nsub, fl_msub, fl_nle, fl_nlt, fl_neq, fl_nclamp, fl_nin, fl_ltT, fl_ltF, fl_leT, fl_leF, fl_eqT, fl_eqF, decide_true, decide_false, Bool.true_and, Bool.and_true, Bool.false_and, Bool.and_false, if_true, if_false, Bool.false_eq_true, Option.isSome_some, Option.getD_some, not_true_eq_false, not_false_eq_true, Option.toList_some, Option.toList_none, List.cons_append, List.nil_append, e129, fbP_222_9, fbP_222_18, sb, o4])
  clear w m
  rw [fbE_222]
  refine lp.trans ?_
  try dsimp only
  rw [fbC_222_4]
  simp (disch := omega) only [hg.1, fl_KM, fl_RM, fl_lit, fl_nadd, fl_nmul, fl_ndiv, fl_nsub, fl_msub, fl_nle, fl_nlt, fl_neq, fl_nclamp, fl_nin, fl_ltT, fl_ltF, fl_leT, fl_leF, fl_eqT, fl_eqF, decide_true, decide_false, Bool.true_and, Bool.and_true, Bool.false_and, Bool.and_false, if_true, if_false, Bool.false_eq_true, Option.isSome_some, Option.getD_some, not_true_eq_false, not_false_eq_true, Option.toList_some, Option.toList_none, List.cons_append, List.nil_append, e129, fbP_222_9]
  rfl
theorem fr_246 (x : Int64) {f : Nat} (hf : f < 64) : fl_cl fl_C 246 [.long x, .int (Int32.ofNat f)] h = some (some (some (.int (if fl_hb x f = true then Int32.ofNat 1 else Int32.ofNat 0))), h) := by
  rw [fbE_246, fl_hb_sar hf]
  cases fl_hb x f
  · rfl
  · rfl
/-- the values of a circuit by a pattern behind the run -/
theorem fr_247t (hg : fl_g k0 h) (m : fl_mm h g) (w : fl_wf g) {pt : Nat} (hp : pt < 256) (hp2 : ∀ k, k < g 1 → pt / 4 ^ k % 4 ≤ 2) {f : Nat} (hf : f < 64) (M : Int32) (hst : ∀ k, k < g 0 → fl_i h 267 k = Int32.ofNat (g (40 + k))) {Q : Option Value → fl_H → Prop} (hQ : ∀ y, fl_fx (fun b => b = 266 ∨ b = 267) h y → (∀ k, k < g 0 → fl_i y 266 k = Int32.ofNat (fl_lay g f pt (fl_hd g f (fl_ps g) (g 76)) (g 0) k)) → fl_to (fl_ca fl_C 247 78 [some (.ref 259), some (.int (Int32.ofNat pt)), some (.int M), some (.int (Int32.ofNat f))] [] [] (some (some none, y))) Q) : fl_to (fl_Rn fl_C 247 42 [some (.ref 259), some (.int (Int32.ofNat pt)), some (.int M), some (.int (Int32.ofNat f)), some (.int (Int32.ofNat 0))] [] h) Q := by
  have w7 : g 76 ≤ 24 := w.1.2.2.2.2.2.2.2.1
  have okp : fl_okp g (fl_ps g) (g 76) := fl_okp_g w
  have ff := fl_fi_lt hf
  refine fl_loopT (F := fun t x => fl_Rn fl_C 247 42 [some (.ref 259), some (.int (Int32.ofNat pt)), some (.int M), some (.int (Int32.ofNat f)), some (.int (Int32.ofNat t))] [] x) (fun t x => fl_fx (fun b => b = 266 ∨ b = 267) h x ∧ ∀ k, k < g 0 → fl_i x 267 k = Int32.ofNat (fl_hd g f (fl_ps g) t k)) (g 76) ?_ ?_ 0 h (Nat.zero_le _) ⟨fl_fx_rfl, hst⟩
  · rintro x ⟨fx, hx⟩
    have gx := fl_g_fx hg fx
    have mx := fl_mm_fx m fx (by omega)
    have e130 := fr_130h gx
    rw [mx 76 (by omega)] at e130
    have e137 := fr_137 gx mx w hp hp2 f (hd := fl_hd g f (fl_ps g) (g 76)) (fun k hk => fl_hd_le w okp (g 76) (Nat.le_refl _) k hk) (fun k hk _ => hx k hk)
    rw [ff] at e137
    have tf := fl_tk_fx (h := x) (g := g) (f := f) (pt := pt) (hd := fl_hd g f (fl_ps g) (g 76))
    have tv := fun k hk => fl_tk_val (h := x) (g := g) (f := f) (pt := pt) (hd := fl_hd g f (fl_ps g) (g 76)) (k := k) hk
    have fin : fl_Rn fl_C 247 42 [some (.ref 259), some (.int (Int32.ofNat pt)), some (.int M), some (.int (Int32.ofNat f)), some (.int (Int32.ofNat (g 76)))] [] x = fl_ca fl_C 247 78 [some (.ref 259), some (.int (Int32.ofNat pt)), some (.int M), some (.int (Int32.ofNat f))] [] [] (some (some none, fl_tk x g f pt (fl_hd g f (fl_ps g) (g 76)))) := by
      clear w m mx okp fx tf tv hx hQ hst hp2
      generalize fl_tk x g f pt (fl_hd g f (fl_ps g) (g 76)) = Y at *
      rw [fbC_247_42]
      simp (disch := omega) only [gx.1, fl_KM, fl_RM, fl_lit, fl_nadd, fl_nmul, fl_ndiv, fl_nsub, fl_msub, fl_nle, fl_nlt, fl_neq, fl_nclamp, fl_nin, fl_ltT, fl_ltF, fl_leT, fl_leF, fl_eqT, fl_eqF, decide_true, decide_false, Bool.true_and, Bool.and_true, Bool.false_and, Bool.and_false, if_true, if_false, Bool.false_eq_true, Option.isSome_some, Option.getD_some, not_true_eq_false, not_false_eq_true, Option.toList_some, Option.toList_none, List.cons_append, List.nil_append, e130, fbP_247_48, e137]
    rw [fin]
    exact hQ _ (fl_fx_tr fx tf) tv
  · rintro t x ht ⟨fx, hx⟩ hy
    have gx := fl_g_fx hg fx
    have mx := fl_mm_fx m fx (by omega)
    have e130 := fr_130h gx
    rw [mx 76 (by omega)] at e130
    have m78 : fl_i x 262 (78 + t) = Int32.ofNat (fl_ps g t) := mx (78 + t) (by omega)
    have p := okp t ht
    have e137 := fr_137 gx mx w p.1 p.2 f (hd := fl_hd g f (fl_ps g) t) (fun k hk => fl_hd_le w okp t (by omega) k hk) (fun k hk _ => hx k hk)
    rw [ff] at e137
    have tf := fl_tk_fx (h := x) (g := g) (f := f) (pt := fl_ps g t) (hd := fl_hd g f (fl_ps g) t)
    have th := fun k hk => fl_tk_hold (h := x) (g := g) (f := f) (pt := fl_ps g t) (hd := fl_hd g f (fl_ps g) t) (k := k) hk
    have fin : fl_Rn fl_C 247 42 [some (.ref 259), some (.int (Int32.ofNat pt)), some (.int M), some (.int (Int32.ofNat f)), some (.int (Int32.ofNat t))] [] x = fl_Rn fl_C 247 42 [some (.ref 259), some (.int (Int32.ofNat pt)), some (.int M), some (.int (Int32.ofNat f)), some (.int (Int32.ofNat (t + 1)))] [] (fl_tk x g f (fl_ps g t) (fl_hd g f (fl_ps g) t)) := by
      clear w m mx okp fx tf th hx hQ hst hp2 hy
      generalize fl_tk x g f (fl_ps g t) (fl_hd g f (fl_ps g) t) = Y at *
      generalize fl_ps g t = pv at *
      rw [fbC_247_42]
      simp (disch := omega) only [gx.1, gx.2, fl_KM, fl_RM, fl_lit, fl_nadd, fl_nmul, fl_ndiv, fl_nsub, fl_msub, fl_nle, fl_nlt, fl_neq, fl_nclamp, fl_nin, fl_ltT, fl_ltF, fl_leT, fl_leF, fl_eqT, fl_eqF, decide_true, decide_false, Bool.true_and, Bool.and_true, Bool.false_and, Bool.and_false, if_true, if_false, Bool.false_eq_true, Option.isSome_some, Option.getD_some, not_true_eq_false, not_false_eq_true, Option.toList_some, Option.toList_none, List.cons_append, List.nil_append, e130, fbP_247_48, fbC_247_61, m78, fbC_247_62, e137, fbP_247_66]
    rw [fin]
    exact hy _ ⟨fl_fx_tr fx tf, th⟩
/-- the code of a circuit's values is laid out -/
theorem fr_247o (hg : fl_g k0 h) (m : fl_mm h g) (w : fl_wf g) (hV : ∀ c k, V c k ≤ 2) (P M : Int32) {f : Nat} (hf : f < 64) (hv : ∀ k, k < g 0 → fl_i h 266 k = Int32.ofNat (V f k)) : fl_ca fl_C 247 78 [some (.ref 259), some (.int P), some (.int M), some (.int (Int32.ofNat f))] [] [] (some (some none, h)) = fl_Rn fl_C 247 141 [some (.ref 259), some (.int P), some (.int M), some (.int (Int32.ofNat f)), some (.int (Int32.ofNat 0)), some (.int (Int32.ofNat 0))] [] (fl_wi h 282 (fl_up (fl_i h 282) f (Int32.ofNat (fl_cd g V f (g 3))))) := by
  have w3 : g 3 ≤ 4 := w.1.2.2.2.2.2.2.1
  have w0 : g 0 ≤ 12 := w.1.2.2.2.1
  have m3 := m 3 (by omega)
  have lp := fl_iter (fun j => fl_Rn fl_C 247 88 [some (.ref 259), some (.int P), some (.int M), some (.int (Int32.ofNat f)), some (.int (Int32.ofNat j))] [] (fl_wi h 282 (fl_up (fl_i h 282) f (Int32.ofNat (fl_cd g V f j))))) (g 3) (fun j hj => by
    have lk : g (72 + j) < g 0 := w.2.2.2.2.2.1 j hj
    have m72 := m (72 + j) (by omega)
    have v1 := hv _ lk
    have vv := hV f (g (72 + j))
    have cl := fl_cd_lt hV (g := g) (f := f) j
    have c81 : 3 ^ j ≤ 3 ^ 4 := Nat.pow_le_pow_right (by decide) (by omega)
    try dsimp only
    rw [fl_cd]
    clear w m hv hV
    generalize V f (g (72 + j)) = v at *
    generalize fl_cd g V f j = C at *
    generalize g (72 + j) = ln at *
    rw [fbC_247_88]
    simp (disch := omega) only [fl_k_wl, fl_r_wl, fl_i_wl, fl_l_wl, fl_1_wl, fl_k_wi, fl_r_wi, fl_l_wi, fl_1_wi, fl_i_wi, fl_k_si, fl_r_si, fl_l_si, fl_k_sl, fl_r_sl, fl_i_sl, fl_up_self, fl_up_ne, fl_si_wi, fl_sl_wl, fl_wi_wi, fl_wl_wl, fl_up_up, hg.1, hg.2, fl_KM, fl_RM, fl_lit, fl_nadd, fl_nmul, fl_ndiv, fl_nsub, fl_msub, fl_nle, fl_nlt, fl_neq, fl_nclamp, fl_nin, fl_ltT, fl_ltF, fl_leT, fl_leF, fl_eqT, fl_eqF, decide_true, decide_false, Bool.true_and, Bool.and_true, Bool.false_and, Bool.and_false, if_true, if_false, Bool.false_eq_true, Option.isSome_some, Option.getD_some, not_true_eq_false, not_false_eq_true, Option.toList_some, Option.toList_none, List.cons_append, List.nil_append, m3, fbC_247_96, fbC_247_111, fbC_247_125, m72, fbC_247_126, v1, fbC_247_127, fbC_247_129])
  have st : fl_ca fl_C 247 78 [some (.ref 259), some (.int P), some (.int M), some (.int (Int32.ofNat f))] [] [] (some (some none, h)) = fl_Rn fl_C 247 88 [some (.ref 259), some (.int P), some (.int M), some (.int (Int32.ofNat f)), some (.int (Int32.ofNat 0))] [] (fl_wi h 282 (fl_up (fl_i h 282) f (Int32.ofNat (fl_cd g V f 0)))) := by
    rw [show fl_cd g V f 0 = 0 from rfl]
    clear w m hv hV lp
    rw [fbP_247_78]
    simp (disch := omega) only [fl_k_wl, fl_r_wl, fl_i_wl, fl_l_wl, fl_1_wl, fl_k_wi, fl_r_wi, fl_l_wi, fl_1_wi, fl_i_wi, fl_k_si, fl_r_si, fl_l_si, fl_k_sl, fl_r_sl, fl_i_sl, fl_up_self, fl_up_ne, fl_si_wi, fl_sl_wl, fl_wi_wi, fl_wl_wl, hg.1, hg.2, fl_KM, fl_RM, fl_lit, fl_nadd, fl_nmul, fl_ndiv, fl_nsub, fl_msub, fl_nle, fl_nlt, fl_neq, fl_nclamp, fl_nin, fl_ltT, fl_ltF, fl_leT, fl_leF, fl_eqT, fl_eqF, decide_true, decide_false, Bool.true_and, Bool.and_true, Bool.false_and, Bool.and_false, if_true, if_false, Bool.false_eq_true, Option.isSome_some, Option.getD_some, not_true_eq_false, not_false_eq_true, Option.toList_some, Option.toList_none, List.cons_append, List.nil_append, fbC_247_85]
  rw [st]
  refine lp.trans ?_
  try dsimp only
  clear w m hv hV lp st
  generalize fl_cd g V f (g 3) = C at *
  rw [fbC_247_88]
  simp (disch := omega) only [fl_k_wl, fl_r_wl, fl_i_wl, fl_l_wl, fl_1_wl, fl_k_wi, fl_r_wi, fl_l_wi, fl_1_wi, fl_i_wi, fl_k_si, fl_r_si, fl_l_si, fl_k_sl, fl_r_sl, fl_i_sl, fl_up_self, fl_up_ne, fl_si_wi, fl_sl_wl, fl_wi_wi, fl_wl_wl, hg.1, hg.2, fl_KM, fl_RM, fl_lit, fl_nadd, fl_nmul, fl_ndiv, fl_nsub, fl_msub, fl_nle, fl_nlt, fl_neq, fl_nclamp, fl_nin, fl_ltT, fl_ltF, fl_leT, fl_leF, fl_eqT, fl_eqF, decide_true, decide_false, Bool.true_and, Bool.and_true, Bool.false_and, Bool.and_false, if_true, if_false, Bool.false_eq_true, Option.isSome_some, Option.getD_some, not_true_eq_false, not_false_eq_true, Option.toList_some, Option.toList_none, List.cons_append, List.nil_append, m3, fbC_247_96]
/-- how many ahead have the same code -/
theorem fr_247n (hg : fl_g k0 h) (w : fl_wf g) (hV : ∀ c k, V c k ≤ 2) (P : Int32) {f M : Nat} (hf : f < 64) (hM : M ≤ 64) (hs : fl_hb s f = true) (ho : ∀ e, e ≤ f → fl_i h 282 e = if fl_hb s e = true then Int32.ofNat (fl_cd g V e (g 3)) else -Int32.ofNat 1) : fl_Rn fl_C 247 141 [some (.ref 259), some (.int P), some (.int (Int32.ofNat M)), some (.int (Int32.ofNat f)), some (.int (Int32.ofNat 0)), some (.int (Int32.ofNat 0))] [] h = fl_Rn fl_C 247 4 [some (.ref 259), some (.int P), some (.int (Int32.ofNat (max M (fl_cnt (fl_clk s g V f) (f + 1))))), some (.int (Int32.ofNat (f + 1)))] [] h := by
  have w3 : g 3 ≤ 4 := w.1.2.2.2.2.2.2.1
  have cb : ∀ e, fl_cd g V e (g 3) < 81 := fun e => Nat.lt_of_lt_of_le (fl_cd_lt hV (g 3)) (Nat.pow_le_pow_right (by decide) w3 : 3 ^ g 3 ≤ 3 ^ 4)
  have of := ho f (Nat.le_refl _)
  rw [if_pos hs] at of
  have lp := fl_iter (fun j => fl_Rn fl_C 247 141 [some (.ref 259), some (.int P), some (.int (Int32.ofNat M)), some (.int (Int32.ofNat f)), some (.int (Int32.ofNat (fl_cnt (fl_clk s g V f) j))), some (.int (Int32.ofNat j))] [] h) (f + 1) (fun j hj => by
    have oj := ho j (by omega)
    have cn := fl_cnt_le (q := fl_clk s g V f) j
    have f0 := fr_79 (h := h) (Int32.ofNat 0)
    have f9 := fr_79 (h := h) (Int32.ofNat 1)
    rw [if_pos rfl] at f0
    rw [if_neg (by decide)] at f9
    have bj := cb j
    have bf := cb f
    try dsimp only
    rw [fl_cnt]
    have kq : fl_clk s g V f j = (fl_hb s j && decide (fl_cd g V j (g 3) = fl_cd g V f (g 3))) := by
      unfold fl_clk
      congr 1
      rw [Bool.eq_iff_iff, fl_alk_iff, decide_eq_true_iff]
      exact (fl_cd_eq hV (g 3)).symm
    rw [kq]
    clear w hV ho cb kq
    generalize fl_cd g V j (g 3) = cj at *
    generalize fl_cd g V f (g 3) = cf at *
    generalize fl_cnt (fl_clk s g V f) j = C at *
    cases z : fl_hb s j with
    | false =>
      rw [z, if_neg (by decide)] at oj
      have nq : (-Int32.ofNat 1 = Int32.ofNat cf) = False := eq_false (fun y => by have := fl_neg1 (a := cf) (by omega); rw [← y] at this; exact this.mp rfl)
      rw [Bool.false_and, fbC_247_141]
      simp (disch := omega) only [hg.1, hg.2, fl_KM, fl_RM, fl_lit, fl_nadd, fl_nmul, fl_ndiv, fl_nsub, fl_msub, fl_nle, fl_nlt, fl_neq, fl_nclamp, fl_nin, fl_ltT, fl_ltF, fl_leT, fl_leF, fl_eqT, fl_eqF, decide_true, decide_false, Bool.true_and, Bool.and_true, Bool.false_and, Bool.and_false, if_true, if_false, Bool.false_eq_true, Option.isSome_some, Option.getD_some, not_true_eq_false, not_false_eq_true, Option.toList_some, Option.toList_none, List.cons_append, List.nil_append, oj, fbC_247_156, of, fbC_247_162, nq, f0, fbP_247_173, Bool.toNat_false]
    | true =>
      rw [z, if_pos rfl] at oj
      rw [Bool.true_and]
      by_cases e : cj = cf
      · rw [decide_eq_true e]
        rw [e] at oj
        rw [fbC_247_141]
        simp (disch := omega) only [hg.1, hg.2, fl_KM, fl_RM, fl_lit, fl_nadd, fl_nmul, fl_ndiv, fl_nsub, fl_msub, fl_nle, fl_nlt, fl_neq, fl_nclamp, fl_nin, fl_ltT, fl_ltF, fl_leT, fl_leF, fl_eqT, fl_eqF, decide_true, decide_false, Bool.true_and, Bool.and_true, Bool.false_and, Bool.and_false, if_true, if_false, Bool.false_eq_true, Option.isSome_some, Option.getD_some, not_true_eq_false, not_false_eq_true, Option.toList_some, Option.toList_none, List.cons_append, List.nil_append, oj, fbC_247_156, of, fbC_247_162, f9, fbP_247_173, Bool.toNat_true]
      · rw [decide_eq_false e, fbC_247_141]
        simp (disch := omega) only [hg.1, hg.2, fl_KM, fl_RM, fl_lit, fl_nadd, fl_nmul, fl_ndiv, fl_nsub, fl_msub, fl_nle, fl_nlt, fl_neq, fl_nclamp, fl_nin, fl_ltT, fl_ltF, fl_leT, fl_leF, fl_eqT, fl_eqF, decide_true, decide_false, Bool.true_and, Bool.and_true, Bool.false_and, Bool.and_false, if_true, if_false, Bool.false_eq_true, Option.isSome_some, Option.getD_some, not_true_eq_false, not_false_eq_true, Option.toList_some, Option.toList_none, List.cons_append, List.nil_append, oj, fbC_247_156, of, fbC_247_162, f0, fbP_247_173, Bool.toNat_false])
  refine lp.trans ?_
  try dsimp only
  have cn := fl_cnt_le (q := fl_clk s g V f) (f + 1)
  have e50 := fr_50n (h := h) (a := M) (b := fl_cnt (fl_clk s g V f) (f + 1)) (by omega) (by omega)
  clear w hV ho cb lp of
  generalize fl_cnt (fl_clk s g V f) (f + 1) = C at *
  generalize max M C = MC at *
  rw [fbC_247_141]
  simp (disch := omega) only [fl_lit, fl_nadd, fl_nmul, fl_ndiv, fl_nsub, fl_msub, fl_nle, fl_nlt, fl_neq, fl_nclamp, fl_nin, fl_ltT, fl_ltF, fl_leT, fl_leF, fl_eqT, fl_eqF, decide_true, decide_false, Bool.true_and, Bool.and_true, Bool.false_and, Bool.and_false, if_true, if_false, Bool.false_eq_true, Option.isSome_some, Option.getD_some, not_true_eq_false, not_false_eq_true, Option.toList_some, Option.toList_none, List.cons_append, List.nil_append, e50, fbP_247_188, fbC_247_189]
theorem fl_mrf_64 {n : Nat} (hn : n ≤ 64) : fl_mrf s g V n ≤ 64 := fl_mrf_le.mpr (fun f hf _ => by have := fl_cnt_le (q := fl_clk s g V f) (f + 1); omega)
theorem fr_247 (hg : fl_g k0 h) (m : fl_mm h g) (w : fl_wf g) {pt : Nat} (hp : pt < 256) (hp2 : ∀ k, k < g 1 → pt / 4 ^ k % 4 ≤ 2) (l3 : fl_l h 263 0 = s) (hV : ∀ c k, V c k ≤ 2) (hVe : ∀ f, f < 2 * (g 0 + g 2) → V f = fl_lay g f pt (fl_hd g f (fl_ps g) (g 76)) (g 0)) : fl_to (fl_cl fl_C 247 [.ref 259, .int (Int32.ofNat pt)] h) (fun v y => v = some (.int (Int32.ofNat (fl_mrf s g V (2 * (g 0 + g 2))))) ∧ fl_fx (fun b => b = 266 ∨ b = 267 ∨ b = 282) h y) := by
  have w0 : g 0 ≤ 12 := w.1.2.2.2.1
  have w2 : g 2 ≤ 20 := w.1.2.2.2.2.1
  have st : fl_cl fl_C 247 [.ref 259, .int (Int32.ofNat pt)] h = fl_Rn fl_C 247 4 [some (.ref 259), some (.int (Int32.ofNat pt)), some (.int (Int32.ofNat 0)), some (.int (Int32.ofNat 0))] [] h := by rw [fbE_247]; rfl
  rw [st]
  refine fl_loopT (F := fun f x => fl_Rn fl_C 247 4 [some (.ref 259), some (.int (Int32.ofNat pt)), some (.int (Int32.ofNat (fl_mrf s g V f))), some (.int (Int32.ofNat f))] [] x) (fun f x => fl_fx (fun b => b = 266 ∨ b = 267 ∨ b = 282) h x ∧ ∀ e, e < f → fl_i x 282 e = if fl_hb s e = true then Int32.ofNat (fl_cd g V e (g 3)) else -Int32.ofNat 1) (2 * (g 0 + g 2)) ?_ ?_ 0 h (Nat.zero_le _) ⟨fl_fx_rfl, fun e he => absurd he (Nat.not_lt_zero e)⟩
  · rintro x ⟨fx, -⟩
    have gx := fl_g_fx hg fx
    have e88 := fr_88 gx (fl_mm_fx m fx (by omega))
    have fin : fl_Rn fl_C 247 4 [some (.ref 259), some (.int (Int32.ofNat pt)), some (.int (Int32.ofNat (fl_mrf s g V (2 * (g 0 + g 2))))), some (.int (Int32.ofNat (2 * (g 0 + g 2))))] [] x = some (some (some (.int (Int32.ofNat (fl_mrf s g V (2 * (g 0 + g 2)))))), x) := by
      clear w m fx hp2 hVe hV
      generalize fl_mrf s g V (2 * (g 0 + g 2)) = MM at *
      rw [fbC_247_4]
      simp (disch := omega) only [gx.1, fl_KM, fl_RM, fl_lit, fl_nadd, fl_nmul, fl_ndiv, fl_nsub, fl_msub, fl_nle, fl_nlt, fl_neq, fl_nclamp, fl_nin, fl_ltT, fl_ltF, fl_leT, fl_leF, fl_eqT, fl_eqF, decide_true, decide_false, Bool.true_and, Bool.and_true, Bool.false_and, Bool.and_false, if_true, if_false, Bool.false_eq_true, Option.isSome_some, Option.getD_some, not_true_eq_false, not_false_eq_true, Option.toList_some, Option.toList_none, List.cons_append, List.nil_append, e88, fbP_247_9]
    exact ⟨_, _, fin, rfl, fx⟩
  · rintro f x hf ⟨fx, hx⟩ hy
    have gx := fl_g_fx hg fx
    have mx := fl_mm_fx m fx (by omega)
    have e88 := fr_88 gx mx
    have x3 : fl_l x 263 0 = s := by rw [fx.2.2.2.1]; exact l3
    have M64 := fl_mrf_64 (s := s) (g := g) (V := V) (n := f) (by omega)
    have f1 : fl_fx (fun b => b = 266 ∨ b = 267 ∨ b = 282) h (fl_wi x 282 (fl_up (fl_i x 282) f (-Int32.ofNat 1))) := fl_fx_wi fx (Or.inr (Or.inr rfl))
    have g1 := fl_g_fx hg f1
    have m1 := fl_mm_fx m f1 (by omega)
    have e246 := fr_246 (h := fl_wi x 282 (fl_up (fl_i x 282) f (-Int32.ofNat 1))) s (f := f) (by omega)
    have e132 := fr_132 g1 m1 w
    have i1 : fl_i (fl_wi x 282 (fl_up (fl_i x 282) f (-Int32.ofNat 1))) 282 = fl_up (fl_i x 282) f (-Int32.ofNat 1) := by rw [fl_i_wi, if_pos rfl]
    have l1 : fl_l (fl_wi x 282 (fl_up (fl_i x 282) f (-Int32.ofNat 1))) 263 0 = s := by rw [fl_l_wi]; exact x3
    have mr : fl_mrf s g V (f + 1) = if fl_hb s f = true then max (fl_mrf s g V f) (fl_cnt (fl_clk s g V f) (f + 1)) else fl_mrf s g V f := rfl
    rw [mr] at hy
    have st1 : fl_Rn fl_C 247 4 [some (.ref 259), some (.int (Int32.ofNat pt)), some (.int (Int32.ofNat (fl_mrf s g V f))), some (.int (Int32.ofNat f))] [] x = fl_ca fl_C 247 29 [some (.ref 259), some (.int (Int32.ofNat pt)), some (.int (Int32.ofNat (fl_mrf s g V f))), some (.int (Int32.ofNat f))] [] [] (fl_cl fl_C 246 [.long s, .int (Int32.ofNat f)] (fl_wi x 282 (fl_up (fl_i x 282) f (-Int32.ofNat 1)))) := by
      clear w m mx m1 fx f1 hp2 hVe hV hy hx e132 e246 mr
      generalize fl_mrf s g V f = MM at *
      rw [fbC_247_4]
      simp (disch := omega) only [fl_si_wi, gx.1, gx.2, g1.1, g1.2, fl_KM, fl_RM, fl_lit, fl_nadd, fl_nmul, fl_ndiv, fl_nsub, fl_msub, fl_nle, fl_nlt, fl_neq, fl_nclamp, fl_nin, fl_ltT, fl_ltF, fl_leT, fl_leF, fl_eqT, fl_eqF, decide_true, decide_false, Bool.true_and, Bool.and_true, Bool.false_and, Bool.and_false, if_true, if_false, Bool.false_eq_true, Option.isSome_some, Option.getD_some, not_true_eq_false, not_false_eq_true, Option.toList_some, Option.toList_none, List.cons_append, List.nil_append, e88, fbP_247_9, fbC_247_19, l1, fbC_247_25]
    rw [st1]
    clear st1 mr
    generalize fl_wi x 282 (fl_up (fl_i x 282) f (-Int32.ofNat 1)) = X1 at *
    cases z : fl_hb s f with
    | false =>
      rw [z, if_neg (by decide)] at e246
      rw [z, if_neg (by decide)] at hy
      have fin : fl_ca fl_C 247 29 [some (.ref 259), some (.int (Int32.ofNat pt)), some (.int (Int32.ofNat (fl_mrf s g V f))), some (.int (Int32.ofNat f))] [] [] (fl_cl fl_C 246 [.long s, .int (Int32.ofNat f)] X1) = fl_Rn fl_C 247 4 [some (.ref 259), some (.int (Int32.ofNat pt)), some (.int (Int32.ofNat (fl_mrf s g V f))), some (.int (Int32.ofNat (f + 1)))] [] X1 := by
        clear w m mx m1 fx f1 hp2 hVe hV hy hx e132
        generalize fl_mrf s g V f = MM at *
        rw [e246, fbP_247_29]
        simp (disch := omega) only [fl_lit, fl_nadd, fl_nmul, fl_ndiv, fl_nsub, fl_msub, fl_nle, fl_nlt, fl_neq, fl_nclamp, fl_nin, fl_ltT, fl_ltF, fl_leT, fl_leF, fl_eqT, fl_eqF, decide_true, decide_false, Bool.true_and, Bool.and_true, Bool.false_and, Bool.and_false, if_true, if_false, Bool.false_eq_true, Option.isSome_some, Option.getD_some, not_true_eq_false, not_false_eq_true, Option.toList_some, Option.toList_none, List.cons_append, List.nil_append, fbC_247_189]
      rw [fin]
      refine hy _ ⟨f1, fun e he => ?_⟩
      rw [i1]
      by_cases c : e = f
      · subst c; rw [fl_up_self, z, if_neg (by decide)]
      · rw [fl_up_ne c]; exact hx e (by omega)
    | true =>
      rw [z, if_pos rfl] at e246
      rw [z, if_pos rfl] at hy
      have fs : fl_fx (fun b => b = 266 ∨ b = 267 ∨ b = 282) h (fl_wi X1 267 (fl_ar (g 0) (fun k => g (40 + k)) (fl_i X1 267))) := fl_fx_wi f1 (Or.inr (Or.inl rfl))
      have gs := fl_g_fx hg fs
      have ms := fl_mm_fx m fs (by omega)
      have is : fl_i (fl_wi X1 267 (fl_ar (g 0) (fun k => g (40 + k)) (fl_i X1 267))) 282 = fl_i X1 282 := by rw [fl_i_wi, if_neg (by omega)]
      have hs0 : ∀ k, k < g 0 → fl_i (fl_wi X1 267 (fl_ar (g 0) (fun k => g (40 + k)) (fl_i X1 267))) 267 k = Int32.ofNat (g (40 + k)) := fun k hk => by rw [fl_i_wi, if_pos rfl, fl_ar_lt hk]
      have st2 : fl_ca fl_C 247 29 [some (.ref 259), some (.int (Int32.ofNat pt)), some (.int (Int32.ofNat (fl_mrf s g V f))), some (.int (Int32.ofNat f))] [] [] (fl_cl fl_C 246 [.long s, .int (Int32.ofNat f)] X1) = fl_Rn fl_C 247 42 [some (.ref 259), some (.int (Int32.ofNat pt)), some (.int (Int32.ofNat (fl_mrf s g V f))), some (.int (Int32.ofNat f)), some (.int (Int32.ofNat 0))] [] (fl_wi X1 267 (fl_ar (g 0) (fun k => g (40 + k)) (fl_i X1 267))) := by
        clear w m mx m1 fx f1 hp2 hVe hV hy hx fs ms is hs0
        generalize fl_wi X1 267 (fl_ar (g 0) (fun k => g (40 + k)) (fl_i X1 267)) = X2 at *
        generalize fl_mrf s g V f = MM at *
        rw [e246, fbP_247_29]
        simp (disch := omega) only [g1.1, fl_KM, fl_RM, fl_lit, fl_nadd, fl_nmul, fl_ndiv, fl_nsub, fl_msub, fl_nle, fl_nlt, fl_neq, fl_nclamp, fl_nin, fl_ltT, fl_ltF, fl_leT, fl_leF, fl_eqT, fl_eqF, decide_true, decide_false, Bool.true_and, Bool.and_true, Bool.false_and, Bool.and_false, if_true, if_false, Bool.false_eq_true, Option.isSome_some, Option.getD_some, not_true_eq_false, not_false_eq_true, Option.toList_some, Option.toList_none, List.cons_append, List.nil_append, e132, fbP_247_39]
      rw [st2]
      clear st2 e132 e246
      generalize fl_wi X1 267 (fl_ar (g 0) (fun k => g (40 + k)) (fl_i X1 267)) = X2 at *
      refine fr_247t gs ms w hp hp2 (show f < 64 by omega) _ hs0 (fun y fy vy => ?_)
      have f3 := fl_fx_tr fs (fl_fx_mo fy (fun b z => by omega))
      have gy := fl_g_fx hg f3
      have my := fl_mm_fx m f3 (by omega)
      rw [fr_247o gy my w hV (Int32.ofNat pt) (Int32.ofNat (fl_mrf s g V f)) (show f < 64 by omega) (fun k hk => by rw [hVe f hf]; exact vy k hk)]
      have f4 : fl_fx (fun b => b = 266 ∨ b = 267 ∨ b = 282) h (fl_wi y 282 (fl_up (fl_i y 282) f (Int32.ofNat (fl_cd g V f (g 3))))) := fl_fx_wi f3 (Or.inr (Or.inr rfl))
      have y282 : fl_i y 282 = fl_up (fl_i x 282) f (-Int32.ofNat 1) := by rw [fy.2.2.2.2 282 (by omega), is, i1]
      have ho : ∀ e, e < f + 1 → fl_i (fl_wi y 282 (fl_up (fl_i y 282) f (Int32.ofNat (fl_cd g V f (g 3))))) 282 e = if fl_hb s e = true then Int32.ofNat (fl_cd g V e (g 3)) else -Int32.ofNat 1 := fun e he => by
        rw [fl_i_wi, if_pos rfl]
        by_cases c : e = f
        · subst c; rw [fl_up_self, if_pos z]
        · rw [fl_up_ne c, y282, fl_up_ne c]; exact hx e (by omega)
      rw [fr_247n (fl_g_fx hg f4) w hV (Int32.ofNat pt) (show f < 64 by omega) M64 z (fun e he => ho e (by omega))]
      exact hy _ ⟨f4, ho⟩
end
