/-! PATTERNS of a number; parts: the mathematics, the class's side -/
/-- the digits of a number, the first input's the highest -/
def fl_px (p n : Nat) (k : Nat) : Nat := 48 + n / 2 ^ (p - 1 - k) % 2
def fl_pn (p n : Nat) : Nat := fl_pt (fl_px p n) 0 p
theorem fl_px_val {p n k : Nat} : fl_sval (fl_px p n k) = n / 2 ^ (p - 1 - k) % 2 := by
  unfold fl_px fl_sval
  rcases Nat.mod_two_eq_zero_or_one (n / 2 ^ (p - 1 - k)) with e | e <;> rw [e] <;> rfl
theorem fl_pn_ok {p n : Nat} (hp : p ≤ 4) : fl_pn p n < 256 ∧ ∀ k, k < p → fl_pn p n / 4 ^ k % 4 ≤ 2 := fl_pt_ok hp
theorem fl_shb : ∀ s, s < 4 → ∀ n, n < 16 → ((Int32.ofNat n >>> (Int32.ofNat s &&& Int32.ofNat 31)) &&& Int32.ofNat 1) = Int32.ofNat (n / 2 ^ s % 2) := by decide +kernel
theorem fl_sh1 : ∀ p, p < 5 → (Int32.ofNat 1 <<< (Int32.ofNat p &&& Int32.ofNat 31)) = Int32.ofNat (2 ^ p) := by decide +kernel
theorem fl_p2 {p : Nat} (hp : p ≤ 4) : 2 ^ p ≤ 16 := Nat.pow_le_pow_right (by decide) hp
/-- whether two circuits have like values at all outputs -/
def fl_alk (g : Nat → Nat) (V : Nat → Nat → Nat) (f c : Nat) : Bool := !fl_any (fun j => decide (V c (g (72 + j)) ≠ V f (g (72 + j)))) (g 3)
theorem fl_alk_iff {g : Nat → Nat} {V : Nat → Nat → Nat} {f c : Nat} : fl_alk g V f c = true ↔ ∀ j, j < g 3 → V c (g (72 + j)) = V f (g (72 + j)) := by
  unfold fl_alk
  rw [Bool.not_eq_true']
  constructor
  · intro e j hj
    have := of_decide_eq_false (fl_any_none e hj)
    exact Classical.not_not.mp this
  · intro e
    exact fl_any_ff (fun j hj => decide_eq_false (fun z => z (e j hj)))
/-- who is left ahead of f; the greatest class, by those who are left; by those ahead -/
def fl_rst (s : Int64) (g : Nat → Nat) (V : Nat → Nat → Nat) (f c : Nat) : Bool := fl_hb s c && !fl_any (fun e => fl_hb s e && fl_alk g V e c) f
def fl_clk (s : Int64) (g : Nat → Nat) (V : Nat → Nat → Nat) (f c : Nat) : Bool := fl_hb s c && fl_alk g V f c
def fl_mcl (s : Int64) (g : Nat → Nat) (V : Nat → Nat → Nat) : Nat → Nat
  | 0 => 0
  | f + 1 => if fl_rst s g V f f = true then max (fl_mcl s g V f) (fl_cnt (fl_clk s g V f) 64) else fl_mcl s g V f
def fl_mrf (s : Int64) (g : Nat → Nat) (V : Nat → Nat → Nat) : Nat → Nat
  | 0 => 0
  | f + 1 => if fl_hb s f = true then max (fl_mrf s g V f) (fl_cnt (fl_clk s g V f) (f + 1)) else fl_mrf s g V f
section
variable {s : Int64} {g : Nat → Nat} {V : Nat → Nat → Nat}
theorem fl_mcl_le {M : Nat} : ∀ {n : Nat}, fl_mcl s g V n ≤ M ↔ ∀ f, f < n → fl_rst s g V f f = true → fl_cnt (fl_clk s g V f) 64 ≤ M
  | 0 => ⟨fun _ f hf => absurd hf (Nat.not_lt_zero f), fun _ => Nat.zero_le M⟩
  | n + 1 => by
    rw [fl_mcl]
    by_cases e : fl_rst s g V n n = true
    · rw [if_pos e, Nat.max_le, fl_mcl_le]
      refine ⟨fun h f hf hr => ?_, fun h => ⟨fun f hf hr => h f (by omega) hr, h n (by omega) e⟩⟩
      by_cases c : f = n
      · subst c; exact h.2
      · exact h.1 f (by omega) hr
    · rw [if_neg e, fl_mcl_le]
      refine ⟨fun h f hf hr => ?_, fun h f hf hr => h f (by omega) hr⟩
      by_cases c : f = n
      · subst c; exact absurd hr e
      · exact h f (by omega) hr
theorem fl_mrf_le {M : Nat} : ∀ {n : Nat}, fl_mrf s g V n ≤ M ↔ ∀ f, f < n → fl_hb s f = true → fl_cnt (fl_clk s g V f) (f + 1) ≤ M
  | 0 => ⟨fun _ f hf => absurd hf (Nat.not_lt_zero f), fun _ => Nat.zero_le M⟩
  | n + 1 => by
    rw [fl_mrf]
    by_cases e : fl_hb s n = true
    · rw [if_pos e, Nat.max_le, fl_mrf_le]
      refine ⟨fun h f hf hr => ?_, fun h => ⟨fun f hf hr => h f (by omega) hr, h n (by omega) e⟩⟩
      by_cases c : f = n
      · subst c; exact h.2
      · exact h.1 f (by omega) hr
    · rw [if_neg e, fl_mrf_le]
      refine ⟨fun h f hf hr => ?_, fun h f hf hr => h f (by omega) hr⟩
      by_cases c : f = n
      · subst c; exact absurd hr e
      · exact h f (by omega) hr
theorem fl_clk_eq {f c : Nat} (h : fl_alk g V f c = true) : fl_clk s g V f = fl_clk s g V c := by
  funext d
  unfold fl_clk
  have e : fl_alk g V f d = fl_alk g V c d := by
    rw [Bool.eq_iff_iff, fl_alk_iff, fl_alk_iff]
    rw [fl_alk_iff] at h
    exact ⟨fun z j hj => (z j hj).trans (h j hj).symm, fun z j hj => (z j hj).trans (h j hj)⟩
  rw [e]
theorem fl_cm_at {z : Nat → Bool} : ∀ {n : Nat}, fl_any z n = true → ∃ m, fl_cm z n = m + 1 ∧ m < n ∧ z m = true ∧ ∀ t, m < t → t < n → z t = false
  | 0, h => by cases h
  | n + 1, h => by
    rw [fl_cm]
    by_cases e : z n = true
    · rw [if_pos e]
      exact ⟨n, rfl, by omega, e, fun t h1 h2 => by omega⟩
    · rw [if_neg e]
      have e' : z n = false := by cases y : z n; rfl; exact absurd y e
      rw [fl_any, e', Bool.or_false] at h
      obtain ⟨m, h1, h2, h3, h4⟩ := fl_cm_at h
      refine ⟨m, h1, by omega, h3, fun t h5 h6 => ?_⟩
      by_cases c : t = n
      · subst c; exact e'
      · exact h4 t h5 (by omega)
theorem fl_m_eq {F : Nat} (hF : F ≤ 64) (sub : ∀ c, c < 64 → fl_hb s c = true → c < F) : fl_mcl s g V 64 = fl_mrf s g V F := by
  have key : ∀ M, fl_mcl s g V 64 ≤ M ↔ fl_mrf s g V F ≤ M := by
    intro M
    rw [fl_mcl_le, fl_mrf_le]
    constructor
    · intro h f hf hs
      -- the first of the class of f
      have ex : fl_any (fun e => fl_hb s e && fl_alk g V e f) 64 = true := fl_any_iff.mpr ⟨f, by omega, by rw [hs, Bool.true_and, fl_alk_iff]; exact fun _ _ => rfl⟩
      have sp := fl_frst_sp ex
      have s2 := sp.2.1
      rw [Bool.and_eq_true] at s2
      have ld : fl_rst s g V (fl_frst (fun e => fl_hb s e && fl_alk g V e f) 64) (fl_frst (fun e => fl_hb s e && fl_alk g V e f) 64) = true := by
        unfold fl_rst
        rw [s2.1, Bool.true_and, Bool.not_eq_true']
        refine fl_any_ff (fun e he => ?_)
        have n1 := fl_any_none sp.2.2 he
        cases z : fl_hb s e with
        | false => rfl
        | true =>
          rw [z, Bool.true_and] at n1
          rw [Bool.true_and]
          cases y : fl_alk g V e (fl_frst (fun e => fl_hb s e && fl_alk g V e f) 64) with
          | false => rfl
          | true =>
            rw [fl_alk_iff] at y
            have s3 := fl_alk_iff.mp s2.2
            have : fl_alk g V e f = true := fl_alk_iff.mpr (fun j hj => (s3 j hj).trans (y j hj))
            rw [this] at n1; cases n1
      have b := h _ sp.1 ld
      rw [fl_clk_eq s2.2] at b
      exact Nat.le_trans (fl_cnt_mono (by omega)) b
    · intro h f hf hr
      have hs : fl_hb s f = true := by
        unfold fl_rst at hr
        rw [Bool.and_eq_true] at hr
        exact hr.1
      have ex : fl_any (fl_clk s g V f) 64 = true := fl_any_iff.mpr ⟨f, hf, by unfold fl_clk; rw [hs, Bool.true_and, fl_alk_iff]; exact fun _ _ => rfl⟩
      obtain ⟨m, h1, h2, h3, h4⟩ := fl_cm_at ex
      have h3' := h3
      unfold fl_clk at h3'
      rw [Bool.and_eq_true] at h3'
      have b := h m (sub m h2 h3'.1) h3'.1
      rw [← fl_clk_eq h3'.2] at b
      have ce := fl_cnt_ext (q := fl_clk s g V f) (a := m + 1) (64 - (m + 1)) (fun i h5 h6 => h4 i (by omega) (by omega))
      rw [show m + 1 + (64 - (m + 1)) = 64 by omega] at ce
      rw [ce]
      exact b
  exact Nat.le_antisymm ((key _).mpr (Nat.le_refl _)) ((key _).mp (Nat.le_refl _))
theorem fl_rst_s {f : Nat} (h : fl_rst s g V f f = true) (c : Nat) : (fl_rst s g V f c && fl_alk g V f c) = fl_clk s g V f c := by
  unfold fl_rst at h ⊢
  unfold fl_clk
  rw [Bool.and_eq_true, Bool.not_eq_true'] at h
  cases z : fl_alk g V f c with
  | false => rw [Bool.and_false, Bool.and_false]
  | true =>
    rw [Bool.and_true, Bool.and_true]
    have : fl_any (fun e => fl_hb s e && fl_alk g V e c) f = false := fl_any_ff (fun e he => by
      have n1 := fl_any_none h.2 he
      cases y : fl_hb s e with
      | false => rfl
      | true =>
        rw [y, Bool.true_and] at n1
        rw [Bool.true_and]
        cases x : fl_alk g V e c with
        | false => rfl
        | true =>
          rw [fl_alk_iff] at x z
          have : fl_alk g V e f = true := fl_alk_iff.mpr (fun j hj => (z j hj).symm.trans (x j hj))
          rw [this] at n1; cases n1)
    rw [this, Bool.not_false, Bool.and_true]
theorem fl_rst_y {f : Nat} (h : fl_rst s g V f f = true) (c : Nat) : (fl_rst s g V f c && !fl_clk s g V f c) = fl_rst s g V (f + 1) c := by
  have hs : fl_hb s f = true := by
    unfold fl_rst at h
    rw [Bool.and_eq_true] at h
    exact h.1
  show ((fl_hb s c && !fl_any (fun e => fl_hb s e && fl_alk g V e c) f) && !(fl_hb s c && fl_alk g V f c)) = (fl_hb s c && !(fl_any (fun e => fl_hb s e && fl_alk g V e c) f || (fl_hb s f && fl_alk g V f c)))
  rw [hs]
  cases fl_hb s c <;> cases fl_any (fun e => fl_hb s e && fl_alk g V e c) f <;> cases fl_alk g V f c <;> rfl
theorem fl_rst_n {f : Nat} (h : fl_rst s g V f f = false) (c : Nat) : fl_rst s g V f c = fl_rst s g V (f + 1) c := by
  show (fl_hb s c && !fl_any (fun e => fl_hb s e && fl_alk g V e c) f) = (fl_hb s c && !(fl_any (fun e => fl_hb s e && fl_alk g V e c) f || (fl_hb s f && fl_alk g V f c)))
  cases hs : fl_hb s f with
  | false => rw [Bool.false_and, Bool.or_false]
  | true =>
    cases z : fl_alk g V f c with
    | false => rw [Bool.and_false, Bool.or_false]
    | true =>
      unfold fl_rst at h
      rw [hs, Bool.true_and, Bool.not_eq_false'] at h
      obtain ⟨e, he, hq⟩ := fl_any_iff.mp h
      rw [Bool.and_eq_true] at hq
      have : fl_any (fun e => fl_hb s e && fl_alk g V e c) f = true := fl_any_iff.mpr ⟨e, he, by
        rw [hq.1, Bool.true_and, fl_alk_iff]
        have a := fl_alk_iff.mp hq.2
        have b := fl_alk_iff.mp z
        exact fun j hj => (b j hj).trans (a j hj)⟩
      rw [this]; rfl
theorem fl_rst_0 : fl_B (fl_rst s g V 0) = s := by
  have : fl_rst s g V 0 = fl_hb s := by
    funext c
    show (fl_hb s c && !false) = _
    rw [Bool.not_false, Bool.and_true]
  rw [this]
  exact (fl_B_eta s).symm
end
section
variable {k0 : Nat → Nat × Nat} {h : fl_H} {g : Nat → Nat} {c : Nat × Nat × Nat × Bool} {V : Nat → Nat → Nat} {s : Int64}
theorem fc_211 (hg : fl_g k0 h) (w : fl_wf g) (nt : fl_net h 28 g) {n : Nat} (hn : n < 16) : fl_cl fl_C 211 [.ref 28, .int (Int32.ofNat n)] h = some (some (some (.int (Int32.ofNat (fl_pn (g 1) n)))), h) := by
  have w4 : g 1 ≤ 4 := w.1.2.1
  have o28 := (fl_sk28 (k0 := k0)).1.1
  have i0 : fl_i h 28 0 = Int32.ofNat (g 1) := nt.1.1
  have lp := fl_iter (fun k => fl_Rn fl_C 211 4 [some (.ref 28), some (.int (Int32.ofNat n)), some (.int (Int32.ofNat (fl_pt (fl_px (g 1) n) 0 k))), some (.int (Int32.ofNat k))] [] h) (g 1) (fun k hk => by
    have sb := fl_shb (g 1 - 1 - k) (by omega) n hn
    have pv := fl_px_val (p := g 1) (n := n) (k := 0 + k)
    rw [Nat.zero_add] at pv
    have v2 := fl_sval_le (fl_px (g 1) n k)
    have o4 := fl_or4 k (by omega) (fl_pt (fl_px (g 1) n) 0 k) (fl_pt_lt k) (fl_sval (fl_px (g 1) n k)) (by omega)
    rw [show (31 : Int32) = Int32.ofNat 31 from rfl] at o4
    rw [← pv] at sb
    try dsimp only
    rw [fl_pt, Nat.zero_add]
    clear w nt pv
    generalize fl_sval (fl_px (g 1) n k) = v at *
    generalize fl_pt (fl_px (g 1) n) 0 k = P at *
    rw [fbC_211_4]
    simp (disch := omega) only [hg.1, o28, fl_lit, fl_nadd, fl_nmul, fl_ndiv, fl_nsub, fl_msub, fl_nle, fl_nlt, fl_neq, fl_nclamp, fl_nin, fl_ltT, fl_ltF, fl_leT, fl_leF, fl_eqT, fl_eqF, decide_true, decide_false, Bool.true_and, Bool.and_true, Bool.false_and, Bool.and_false, if_true, if_false, Bool.false_eq_true, Option.isSome_some, Option.getD_some, not_true_eq_false, not_false_eq_true, Option.toList_some, Option.toList_none, List.cons_append, List.nil_append, i0, sb, o4])
  clear w nt
  rw [fbE_211]
  refine lp.trans ?_
  try dsimp only
  rw [fbC_211_4]
  simp (disch := omega) only [hg.1, o28, fl_lit, fl_nadd, fl_nmul, fl_ndiv, fl_nsub, fl_msub, fl_nle, fl_nlt, fl_neq, fl_nclamp, fl_nin, fl_ltT, fl_ltF, fl_leT, fl_leF, fl_eqT, fl_eqF, decide_true, decide_false, Bool.true_and, Bool.and_true, Bool.false_and, Bool.and_false, if_true, if_false, Bool.false_eq_true, Option.isSome_some, Option.getD_some, not_true_eq_false, not_false_eq_true, Option.toList_some, Option.toList_none, List.cons_append, List.nil_append, i0]
  rfl
theorem fc_243 (hg : fl_g k0 h) (w : fl_wf g) (nt : fl_net h 28 g) (hV : ∀ c k, V c k ≤ 2) (h1 : ∀ k, k < g 0 → fl_l h 204 k = fl_B (fun c => decide (V c k = 1)) ∧ fl_l h 206 k = fl_B (fun c => decide (V c k = 0))) {f : Nat} (hf : f < 64) : fl_cl fl_C 243 [.ref 202, .ref 28, .int (Int32.ofNat f)] h = some (some (some (.long (fl_B (fl_alk g V f)))), h) := by
  have w3 : g 3 ≤ 4 := w.1.2.2.2.2.2.2.1
  have w0 : g 0 ≤ 12 := w.1.2.2.2.1
  have N := fl_sk28 (k0 := k0)
  have S := fl_o202 (k0 := k0)
  have o28 := N.1.1
  have o28r : fl_RR 28 10 = some 39 := N.1.2.2.2.2.2.2
  have o39 := N.2.2.2.2.2.2.1
  have i4 : fl_i h 28 4 = Int32.ofNat (g 3) := nt.1.2.2.2.2
  have os := S.1
  have o203 := S.2.1.1
  have o205 := S.2.2.1.1
  have lp := fl_iter (fun j => fl_Rn fl_C 243 7 [some (.ref 202), some (.ref 28), some (.int (Int32.ofNat f)), some (.long (fl_B (fun c => !fl_any (fun j => decide (V c (g (72 + j)) ≠ V f (g (72 + j)))) j))), none, some (.int (Int32.ofNat j))] [] h) (g 3) (fun j hj => by
    have lk : g (72 + j) < g 0 := w.2.2.2.2.2.1 j hj
    have e24 := fc_int N.2.2.2.2.2.2 hg (show j < 4 by omega)
    rw [nt.2.2.2.2.2.2 j hj, fl_o32] at e24
    have a1 := fc_at S.2.1 hg (show g (72 + j) < 12 by omega)
    have a0 := fc_at S.2.2.1 hg (show g (72 + j) < 12 by omega)
    rw [show 202 + 2 = 204 from rfl, (h1 _ lk).1] at a1
    rw [show 202 + 4 = 206 from rfl, (h1 _ lk).2] at a0
    have e1 := fc_120 (h := h) (fl_B (fun c => decide (V c (g (72 + j)) = 1))) hf
    have e0 := fc_120 (h := h) (fl_B (fun c => decide (V c (g (72 + j)) = 0))) hf
    rw [fl_hb_B _ hf] at e1 e0
    have vf := hV f (g (72 + j))
    have nx : fl_B (fun c => !fl_any (fun j => decide (V c (g (72 + j)) ≠ V f (g (72 + j)))) (j + 1)) = fl_B (fun c => (!fl_any (fun j => decide (V c (g (72 + j)) ≠ V f (g (72 + j)))) j) && decide (V c (g (72 + j)) = V f (g (72 + j)))) := fl_B_congr fun c _ => by
      rw [fl_any, Bool.not_or, decide_not, Bool.not_not]
    have tri : ∀ c, V c (g (72 + j)) = 0 ∨ V c (g (72 + j)) = 1 ∨ V c (g (72 + j)) = 2 := fun c => by have := hV c (g (72 + j)); omega
    try dsimp only
    rw [nx]
    clear w nt h1 hV nx lk
    have key : ∀ (A : Nat → Bool) (B : Int64), B = fl_B (fun c => A c && decide (V c (g (72 + j)) = V f (g (72 + j)))) → fl_Rn fl_C 243 7 [some (.ref 202), some (.ref 28), some (.int (Int32.ofNat f)), some (.long (fl_B A)), none, some (.int (Int32.ofNat j))] [] h = fl_Rn fl_C 243 7 [some (.ref 202), some (.ref 28), some (.int (Int32.ofNat f)), some (.long B), none, some (.int (Int32.ofNat (j + 1)))] [] h := fun A B hB => by
      rcases (show V f (g (72 + j)) = 0 ∨ V f (g (72 + j)) = 1 ∨ V f (g (72 + j)) = 2 by omega) with e | e | e
      · rw [e] at e1 e0 hB
        rw [if_neg (by decide)] at e1
        rw [if_pos (by decide)] at e0
        have hB' : (fl_B A &&& (fl_B (fun c => decide (V c (g (72 + j)) = 1)) ^^^ (-1))) &&& fl_B (fun c => decide (V c (g (72 + j)) = 0)) = B := by
          rw [hB, fl_B_not, fl_B_and, fl_B_and]
          exact fl_B_congr fun c _ => by rcases tri c with z | z | z <;> rw [z] <;> cases A c <;> rfl
        clear tri hB
        generalize fl_B (fun c => decide (V c (g (72 + j)) = 1)) = X1 at *
        generalize fl_B (fun c => decide (V c (g (72 + j)) = 0)) = X0 at *
        generalize g (72 + j) = ln at *
        rw [fbC_243_7]
        simp (disch := omega) only [hg.1, hg.2, o28, o28r, o39, os, o203, o205, fl_lit, fl_nadd, fl_nmul, fl_ndiv, fl_nsub, fl_msub, fl_nle, fl_nlt, fl_neq, fl_nclamp, fl_nin, fl_ltT, fl_ltF, fl_leT, fl_leF, fl_eqT, fl_eqF, decide_true, decide_false, Bool.true_and, Bool.and_true, Bool.false_and, Bool.and_false, if_true, if_false, Bool.false_eq_true, Option.isSome_some, Option.getD_some, not_true_eq_false, not_false_eq_true, Option.toList_some, Option.toList_none, List.cons_append, List.nil_append, i4, e24, fbP_243_29, a1, fbP_243_32, fbP_243_47, a0, fbP_243_50, e1, fbP_243_59, e0, fbP_243_82, hB']
      · rw [e] at e1 e0 hB
        rw [if_pos (by decide)] at e1
        rw [if_neg (by decide)] at e0
        have hB' : (fl_B A &&& fl_B (fun c => decide (V c (g (72 + j)) = 1))) &&& (fl_B (fun c => decide (V c (g (72 + j)) = 0)) ^^^ (-1)) = B := by
          rw [hB, fl_B_not, fl_B_and, fl_B_and]
          exact fl_B_congr fun c _ => by rcases tri c with z | z | z <;> rw [z] <;> cases A c <;> rfl
        clear tri hB
        generalize fl_B (fun c => decide (V c (g (72 + j)) = 1)) = X1 at *
        generalize fl_B (fun c => decide (V c (g (72 + j)) = 0)) = X0 at *
        generalize g (72 + j) = ln at *
        rw [fbC_243_7]
        simp (disch := omega) only [hg.1, hg.2, o28, o28r, o39, os, o203, o205, fl_lit, fl_nadd, fl_nmul, fl_ndiv, fl_nsub, fl_msub, fl_nle, fl_nlt, fl_neq, fl_nclamp, fl_nin, fl_ltT, fl_ltF, fl_leT, fl_leF, fl_eqT, fl_eqF, decide_true, decide_false, Bool.true_and, Bool.and_true, Bool.false_and, Bool.and_false, if_true, if_false, Bool.false_eq_true, Option.isSome_some, Option.getD_some, not_true_eq_false, not_false_eq_true, Option.toList_some, Option.toList_none, List.cons_append, List.nil_append, i4, e24, fbP_243_29, a1, fbP_243_32, fbP_243_47, a0, fbP_243_50, e1, fbP_243_59, e0, fbP_243_82, hB']
      · rw [e] at e1 e0 hB
        rw [if_neg (by decide)] at e1 e0
        have hB' : (fl_B A &&& (fl_B (fun c => decide (V c (g (72 + j)) = 1)) ^^^ (-1))) &&& (fl_B (fun c => decide (V c (g (72 + j)) = 0)) ^^^ (-1)) = B := by
          rw [hB, fl_B_not, fl_B_not, fl_B_and, fl_B_and]
          exact fl_B_congr fun c _ => by rcases tri c with z | z | z <;> rw [z] <;> cases A c <;> rfl
        clear tri hB
        generalize fl_B (fun c => decide (V c (g (72 + j)) = 1)) = X1 at *
        generalize fl_B (fun c => decide (V c (g (72 + j)) = 0)) = X0 at *
        generalize g (72 + j) = ln at *
        rw [fbC_243_7]
        simp (disch := omega) only [hg.1, hg.2, o28, o28r, o39, os, o203, o205, fl_lit, fl_nadd, fl_nmul, fl_ndiv, fl_nsub, fl_msub, fl_nle, fl_nlt, fl_neq, fl_nclamp, fl_nin, fl_ltT, fl_ltF, fl_leT, fl_leF, fl_eqT, fl_eqF, decide_true, decide_false, Bool.true_and, Bool.and_true, Bool.false_and, Bool.and_false, if_true, if_false, Bool.false_eq_true, Option.isSome_some, Option.getD_some, not_true_eq_false, not_false_eq_true, Option.toList_some, Option.toList_none, List.cons_append, List.nil_append, i4, e24, fbP_243_29, a1, fbP_243_32, fbP_243_47, a0, fbP_243_50, e1, fbP_243_59, e0, fbP_243_82, hB']
    exact key _ _ rfl)
  clear w nt h1 hV
  have z0 : (-1 : Int64) = fl_B (fun c => !fl_any (fun j => decide (V c (g (72 + j)) ≠ V f (g (72 + j)))) 0) := fl_B_m1
  have st : fl_cl fl_C 243 [.ref 202, .ref 28, .int (Int32.ofNat f)] h = fl_Rn fl_C 243 7 [some (.ref 202), some (.ref 28), some (.int (Int32.ofNat f)), some (.long (fl_B (fun c => !fl_any (fun j => decide (V c (g (72 + j)) ≠ V f (g (72 + j)))) 0))), none, some (.int (Int32.ofNat 0))] [] h := by
    rw [← z0, fbE_243]; rfl
  rw [st, lp]
  try dsimp only
  rw [fbC_243_7]
  simp (disch := omega) only [hg.1, o28, fl_lit, fl_nadd, fl_nmul, fl_ndiv, fl_nsub, fl_msub, fl_nle, fl_nlt, fl_neq, fl_nclamp, fl_nin, fl_ltT, fl_ltF, fl_leT, fl_leF, fl_eqT, fl_eqF, decide_true, decide_false, Bool.true_and, Bool.and_true, Bool.false_and, Bool.and_false, if_true, if_false, Bool.false_eq_true, Option.isSome_some, Option.getD_some, not_true_eq_false, not_false_eq_true, Option.toList_some, Option.toList_none, List.cons_append, List.nil_append, i4]
  rfl
theorem fr_50n {a b : Nat} (ha : a < 900) (hb : b < 900) : fl_cl fl_C 50 [.int (Int32.ofNat a), .int (Int32.ofNat b)] h = some (some (some (.int (Int32.ofNat (max a b)))), h) := by
  have := fr_50m (h := h) (a := a + 1) (b := b + 1) (by omega) (by omega)
  rw [fl_m1_s, fl_m1_s, show max (a + 1) (b + 1) = max a b + 1 by omega, fl_m1_s] at this
  exact this
theorem fl_mcl_64 : ∀ f, fl_mcl s g V f ≤ 64 := fun f => fl_mcl_le.mpr (fun f _ _ => fl_cnt_le 64)
theorem fc_244 (hg : fl_g k0 h) (w : fl_wf g) (nt : fl_net h 28 g) (hV : ∀ c k, V c k ≤ 2) (h1 : ∀ k, k < g 0 → fl_l h 204 k = fl_B (fun c => decide (V c k = 1)) ∧ fl_l h 206 k = fl_B (fun c => decide (V c k = 0))) (l7 : fl_l h 27 7 = s) : fl_cl fl_C 244 [.ref 0, .ref 202] h = some (some (some (.int (Int32.ofNat (fl_mcl s g V 64)))), h) := by
  have R := fl_o27 (k0 := k0)
  have o27 : fl_KK k0 27 = (1, 7) ∧ fl_RR 27 0 = some 28 := ⟨R.1.1, R.1.2.1⟩
  have o202 := (fl_o202 (k0 := k0)).1.1
  have lp := fl_iter (fun f => fl_Rn fl_C 244 13 [some (.ref 0), some (.ref 202), some (.int (Int32.ofNat (fl_mcl s g V f))), some (.long (fl_B (fl_rst s g V f))), none, some (.int (Int32.ofNat f))] [] h) 64 (fun f hf => by
    have e243 := fc_243 hg w nt hV h1 hf
    have e120 := fc_120 (h := h) (fl_B (fl_rst s g V f)) hf
    rw [fl_hb_B _ hf] at e120
    have m64 := fl_mcl_64 (s := s) (g := g) (V := V) f
    have c64 := fl_cnt_le (q := fl_clk s g V f) 64
    try dsimp only
    cases z : fl_rst s g V f f with
    | true =>
      have e1 : fl_B (fl_rst s g V f) &&& fl_B (fl_alk g V f) = fl_B (fl_clk s g V f) := by
        rw [fl_B_and]; exact fl_B_congr fun c _ => fl_rst_s z c
      have e2 : fl_B (fl_rst s g V f) &&& (fl_B (fl_clk s g V f) ^^^ (-1)) = fl_B (fl_rst s g V (f + 1)) := by
        rw [fl_B_not, fl_B_and]; exact fl_B_congr fun c _ => fl_rst_y z c
      have b := fc_126 (h := h) (fl_B (fl_clk s g V f))
      rw [fl_cnt_congr (fun i hi => fl_hb_B (fl_clk s g V f) hi)] at b
      have e50 := fr_50n (h := h) (a := fl_mcl s g V f) (b := fl_cnt (fl_clk s g V f) 64) (by omega) (by omega)
      have mx : fl_mcl s g V (f + 1) = max (fl_mcl s g V f) (fl_cnt (fl_clk s g V f) 64) := by rw [fl_mcl, if_pos z]
      rw [z, if_pos rfl] at e120
      rw [mx, ← e2]
      clear w nt h1 hV mx e2
      generalize max (fl_mcl s g V f) (fl_cnt (fl_clk s g V f) 64) = MM at *
      generalize fl_cnt (fl_clk s g V f) 64 = CC at *
      generalize fl_mcl s g V f = M0 at *
      generalize fl_B (fl_clk s g V f) = X2 at *
      generalize fl_B (fl_alk g V f) = X1 at *
      generalize fl_B (fl_rst s g V f) = X0 at *
      rw [fbC_244_13]
      simp (disch := omega) only [hg.1, hg.2, fl_KF, fl_RF, o27, o202, fl_lit, fl_nadd, fl_nmul, fl_ndiv, fl_nsub, fl_msub, fl_nle, fl_nlt, fl_neq, fl_nclamp, fl_nin, fl_ltT, fl_ltF, fl_leT, fl_leF, fl_eqT, fl_eqF, decide_true, decide_false, Bool.true_and, Bool.and_true, Bool.false_and, Bool.and_false, if_true, if_false, Bool.false_eq_true, Option.isSome_some, Option.getD_some, not_true_eq_false, not_false_eq_true, Option.toList_some, Option.toList_none, List.cons_append, List.nil_append, e120, fbP_244_26, e243, fbP_244_43, e1, b, fbP_244_52, e50, fbP_244_55, fbC_244_65]
    | false =>
      have e2 : fl_rst s g V (f + 1) = fl_rst s g V f := funext fun c => (fl_rst_n z c).symm
      have mx : fl_mcl s g V (f + 1) = fl_mcl s g V f := by rw [fl_mcl, if_neg (by rw [z]; decide)]
      rw [z, if_neg (by decide)] at e120
      rw [mx, e2]
      clear w nt h1 hV mx e2 e243
      rw [fbC_244_13]
      simp (disch := omega) only [hg.1, hg.2, fl_KF, fl_RF, o27, o202, fl_lit, fl_nadd, fl_nmul, fl_ndiv, fl_nsub, fl_msub, fl_nle, fl_nlt, fl_neq, fl_nclamp, fl_nin, fl_ltT, fl_ltF, fl_leT, fl_leF, fl_eqT, fl_eqF, decide_true, decide_false, Bool.true_and, Bool.and_true, Bool.false_and, Bool.and_false, if_true, if_false, Bool.false_eq_true, Option.isSome_some, Option.getD_some, not_true_eq_false, not_false_eq_true, Option.toList_some, Option.toList_none, List.cons_append, List.nil_append, e120, fbP_244_26, fbC_244_65])
  have st : fl_cl fl_C 244 [.ref 0, .ref 202] h = fl_Rn fl_C 244 13 [some (.ref 0), some (.ref 202), some (.int (Int32.ofNat (fl_mcl s g V 0))), some (.long (fl_B (fl_rst s g V 0))), none, some (.int (Int32.ofNat 0))] [] h := by
    rw [fl_rst_0, show fl_mcl s g V 0 = 0 from rfl]
    clear w nt h1 hV lp
    rw [fbE_244]
    simp (disch := omega) only [hg.1, hg.2, fl_KF, fl_RF, o27, fl_lit, fl_nadd, fl_nmul, fl_ndiv, fl_nsub, fl_msub, fl_nle, fl_nlt, fl_neq, fl_nclamp, fl_nin, fl_ltT, fl_ltF, fl_leT, fl_leF, fl_eqT, fl_eqF, decide_true, decide_false, Bool.true_and, Bool.and_true, Bool.false_and, Bool.and_false, if_true, if_false, Bool.false_eq_true, Option.isSome_some, Option.getD_some, not_true_eq_false, not_false_eq_true, Option.toList_some, Option.toList_none, List.cons_append, List.nil_append, l7]
  clear w nt h1 hV
  rw [st, lp]
  try dsimp only
  rw [fbC_244_13]
  simp (disch := omega) only [fl_lit, fl_nadd, fl_nmul, fl_ndiv, fl_nsub, fl_msub, fl_nle, fl_nlt, fl_neq, fl_nclamp, fl_nin, fl_ltT, fl_ltF, fl_leT, fl_leF, fl_eqT, fl_eqF, decide_true, decide_false, Bool.true_and, Bool.and_true, Bool.false_and, Bool.and_false, if_true, if_false, Bool.false_eq_true, Option.isSome_some, Option.getD_some, not_true_eq_false, not_false_eq_true, Option.toList_some, Option.toList_none, List.cons_append, List.nil_append]
end
