/-! THE WORK OF A GATE, by 64 circuits side by side -/
theorem fl_gA {s w a b : Nat} (hs : s = 2 ∨ s = 8) (hw : w = 1) (hab : a + b ≤ w) : (b = w ↔ fl_gx s (fl_gr s w a b) = 1) ∧ (0 < a ↔ fl_gx s (fl_gr s w a b) = 0) := by
  subst hw
  rcases hs with rfl | rfl <;> rcases (show (a = 0 ∧ b = 0) ∨ (a = 0 ∧ b = 1) ∨ (a = 1 ∧ b = 0) by omega) with ⟨rfl, rfl⟩ | ⟨rfl, rfl⟩ | ⟨rfl, rfl⟩ <;> decide
theorem fl_gB {w a b : Nat} (hw : w = 1) (hab : a + b ≤ w) : (b = w ↔ fl_gx 1 (fl_gr 1 w a b) = 0) ∧ (0 < a ↔ fl_gx 1 (fl_gr 1 w a b) = 1) := by
  subst hw
  rcases (show (a = 0 ∧ b = 0) ∨ (a = 0 ∧ b = 1) ∨ (a = 1 ∧ b = 0) by omega) with ⟨rfl, rfl⟩ | ⟨rfl, rfl⟩ | ⟨rfl, rfl⟩ <;> decide
theorem fl_gC {w a b : Nat} (hab : a + b ≤ w) : (b = w ↔ fl_gx 3 (fl_gr 3 w a b) = 1) ∧ (0 < a ↔ fl_gx 3 (fl_gr 3 w a b) = 0) := by
  unfold fl_gx fl_gr
  simp
  constructor <;> (repeat' split) <;> omega
theorem fl_gD {w a b : Nat} (hab : a + b ≤ w) : (b = w ↔ fl_gx 6 (fl_gr 6 w a b) = 0) ∧ (0 < a ↔ fl_gx 6 (fl_gr 6 w a b) = 1) := by
  unfold fl_gx fl_gr
  simp
  constructor <;> (repeat' split) <;> omega
theorem fl_gE {w a b : Nat} (hab : a + b ≤ w) : (0 < b ↔ fl_gx 4 (fl_gr 4 w a b) = 1) ∧ (a = w ↔ fl_gx 4 (fl_gr 4 w a b) = 0) := by
  unfold fl_gx fl_gr
  simp
  constructor <;> (repeat' split) <;> omega
theorem fl_gF {w a b : Nat} (hab : a + b ≤ w) : (0 < b ↔ fl_gx 7 (fl_gr 7 w a b) = 0) ∧ (a = w ↔ fl_gx 7 (fl_gr 7 w a b) = 1) := by
  unfold fl_gx fl_gr
  simp
  constructor <;> (repeat' split) <;> omega
theorem fl_gG {w a b : Nat} : ((b % 2 = 1 ∧ a + b = w) ↔ fl_gx 5 (fl_gr 5 w a b) = 1) ∧ ((¬ b % 2 = 1 ∧ a + b = w) ↔ fl_gx 5 (fl_gr 5 w a b) = 0) := by
  unfold fl_gx fl_gr
  simp
  constructor <;> (repeat' split) <;> omega
/-- what is live, the fault of a circuit -/
def fl_fa (lv : Nat → Bool) (c : Nat) : Nat := if lv c = true then c else 64
theorem fl_pin1 {lv : Nat → Bool} {c a v : Nat} (hc : c < 64) (ha : a + 1 < 64) : ((decide (v = 1) && (lv c && decide (c = a) ^^ true)) || (lv c && decide (c = a + 1))) = decide ((if fl_fa lv c = a then 0 else if fl_fa lv c = a + 1 then 1 else v) = 1) := by
  unfold fl_fa
  cases lv c with
  | false => simp [show ¬ 64 = a by omega, show ¬ 64 = a + 1 by omega]
  | true =>
    by_cases e : c = a
    · subst e; simp
    · by_cases e1 : c = a + 1
      · subst e1; simp
      · simp [e, e1]
theorem fl_pin0 {lv : Nat → Bool} {c a v : Nat} (hc : c < 64) (ha : a + 1 < 64) : ((decide (v = 0) && (lv c && decide (c = a + 1) ^^ true)) || (lv c && decide (c = a))) = decide ((if fl_fa lv c = a then 0 else if fl_fa lv c = a + 1 then 1 else v) = 0) := by
  unfold fl_fa
  cases lv c with
  | false => simp [show ¬ 64 = a by omega, show ¬ 64 = a + 1 by omega]
  | true =>
    by_cases e : c = a
    · subst e; simp
    · by_cases e1 : c = a + 1
      · subst e1; simp
      · simp [e, e1]
theorem fc_112 {h : fl_H} {s : Nat} (hs : s < 256) : fl_cl fl_C 112 [.int (Int32.ofNat s)] h = some (some (some (.int (if s = 1 ∨ s = 6 ∨ s = 7 then Int32.ofNat 1 else Int32.ofNat 0))), h) := by
  rw [fbE_112, fbC_112_17]
  simp (disch := omega) only [fl_lit, fl_nadd, fl_nmul, fl_ndiv, fl_nsub, fl_msub, fl_nle, fl_nlt, fl_neq, fl_nclamp, fl_nin, fl_ltT, fl_ltF, fl_leT, fl_leF, fl_eqT, fl_eqF, decide_true, decide_false, Bool.true_and, Bool.and_true, Bool.false_and, Bool.and_false, if_true, if_false, Bool.false_eq_true, Option.isSome_some, Option.getD_some, not_true_eq_false, not_false_eq_true, Option.toList_some, Option.toList_none, List.cons_append, List.nil_append]
  by_cases h1 : s = 1
  · simp [h1]
  · by_cases h6 : s = 6
    · simp [h6]
    · by_cases h7 : s = 7
      · simp [h7]
      · simp [h1, h6, h7]
theorem fl_st1 {g : Nat → Nat} {f : Nat} {v : Nat → Nat} {k z i : Nat} (h : fl_gn g f v k z i ≤ i) : (decide (fl_gn g f v k z i = i) && decide (fl_pv g f v (g (16 + k) + i) = z)) = decide (fl_gn g f v k z (i + 1) = i + 1) := by
  rw [fl_gn_succ]
  by_cases c : fl_pv g f v (g (16 + k) + i) = z
  · rw [decide_eq_true c, Bool.and_true, Bool.toNat_true]
    exact decide_eq_decide.mpr (by omega)
  · rw [decide_eq_false c, Bool.and_false, Bool.toNat_false]
    exact (decide_eq_false (by omega)).symm
theorem fl_st2 {g : Nat → Nat} {f : Nat} {v : Nat → Nat} {k z i : Nat} : (decide (0 < fl_gn g f v k z i) || decide (fl_pv g f v (g (16 + k) + i) = z)) = decide (0 < fl_gn g f v k z (i + 1)) := by
  rw [fl_gn_succ]
  by_cases c : fl_pv g f v (g (16 + k) + i) = z
  · rw [decide_eq_true c, Bool.or_true, Bool.toNat_true]
    exact (decide_eq_true (by omega)).symm
  · rw [decide_eq_false c, Bool.or_false, Bool.toNat_false]
    exact decide_eq_decide.mpr (by omega)
theorem fl_st3 {g : Nat → Nat} {f : Nat} {v : Nat → Nat} {k z i : Nat} : (decide (fl_gn g f v k z i % 2 = 1) ^^ decide (fl_pv g f v (g (16 + k) + i) = z)) = decide (fl_gn g f v k z (i + 1) % 2 = 1) := by
  rw [fl_gn_succ]
  by_cases c : fl_pv g f v (g (16 + k) + i) = z
  · rw [decide_eq_true c, Bool.xor_true, Bool.toNat_true, ← decide_not]
    exact decide_eq_decide.mpr (by omega)
  · rw [decide_eq_false c, Bool.xor_false, Bool.toNat_false]
    exact decide_eq_decide.mpr (by omega)
theorem fl_st4 {g : Nat → Nat} {f : Nat} {v : Nat → Nat} {k i : Nat} (h : fl_gn g f v k 0 i + fl_gn g f v k 1 i ≤ i) : (decide (fl_gn g f v k 0 i + fl_gn g f v k 1 i = i) && (decide (fl_pv g f v (g (16 + k) + i) = 1) || decide (fl_pv g f v (g (16 + k) + i) = 0))) = decide (fl_gn g f v k 0 (i + 1) + fl_gn g f v k 1 (i + 1) = i + 1) := by
  rw [fl_gn_succ, fl_gn_succ]
  by_cases c : fl_pv g f v (g (16 + k) + i) = 0
  · rw [decide_eq_true c, Bool.or_true, Bool.and_true, Bool.toNat_true, decide_eq_false (show ¬ fl_pv g f v (g (16 + k) + i) = 1 by omega), Bool.toNat_false]
    exact decide_eq_decide.mpr (by omega)
  · by_cases c1 : fl_pv g f v (g (16 + k) + i) = 1
    · rw [decide_eq_true c1, decide_eq_false c, Bool.or_false, Bool.and_true, Bool.toNat_true, Bool.toNat_false]
      exact decide_eq_decide.mpr (by omega)
    · rw [decide_eq_false c1, decide_eq_false c, Bool.or_false, Bool.and_false, Bool.toNat_false]
      exact (decide_eq_false (by omega)).symm
theorem fc_111 {k0 : Nat → Nat × Nat} {h : fl_H} {g : Nat → Nat} {n : Nat} (hg : fl_g k0 h) (nn : fl_isN k0 n) (w : fl_wf g) (d : fl_net h n g) {p : Nat} (hp : p < 20) {z : Nat} (hz : z < 2) : fl_cl fl_C 111 [.ref n, .int (Int32.ofNat p), .int (Int32.ofNat z)] h = some (some (some (.int (Int32.ofNat (2 * (g 0 + p) + z)))), h) := by
  rw [fbE_111]
  simp (disch := omega) only [hg.1, nn.1, d.1, fl_lit, fl_nadd, fl_nmul, fl_ndiv, fl_nsub, fl_msub, fl_nle, fl_nlt, fl_neq, fl_nclamp, fl_nin, fl_ltT, fl_ltF, fl_leT, fl_leF, fl_eqT, fl_eqF, decide_true, decide_false, Bool.true_and, Bool.and_true, Bool.false_and, Bool.and_false, if_true, if_false, Bool.false_eq_true, Option.isSome_some, Option.getD_some, not_true_eq_false, not_false_eq_true, Option.toList_some, Option.toList_none, List.cons_append, List.nil_append]
/-- the end of the work -/
theorem fc_113e {k0 : Nat → Nat × Nat} {h : fl_H} (hg : fl_g k0 h) {k s e1 e2 : Nat} (hk : k < 12) (hs : 1 ≤ s ∧ s ≤ 8) (he : e1 ≤ e2) (he2 : e2 < 100) {a qa b qb o n : Nat} (ca : fl_isC k0 a qa 12) (cb : fl_isC k0 b qb 12) (lv A S Z Y O K : Int64) :
    fl_Rn fl_C 113 61 [some (.ref o), some (.ref n), some (.int (Int32.ofNat k)), some (.long lv), none, some (.ref a), some (.ref b), some (.int (Int32.ofNat s)), none, some (.int (Int32.ofNat e1)), some (.long A), none, some (.long S), none, some (.long Z), none, some (.long Y), none, some (.long O), none, some (.long K), none, some (.int (Int32.ofNat e2))] [] h =
    some (some none, fl_wl (fl_wl h qa (fl_up (fl_l h qa) k (if s = 1 ∨ s = 6 ∨ s = 7 then (if s = 5 then (O ^^^ (-1)) &&& K else if s = 4 ∨ s = 7 then Z else Y) else (if s = 5 then O &&& K else if s = 4 ∨ s = 7 then S else A)))) qb (fl_up (fl_l (fl_wl h qa (fl_up (fl_l h qa) k (if s = 1 ∨ s = 6 ∨ s = 7 then (if s = 5 then (O ^^^ (-1)) &&& K else if s = 4 ∨ s = 7 then Z else Y) else (if s = 5 then O &&& K else if s = 4 ∨ s = 7 then S else A)))) qb) k (if s = 1 ∨ s = 6 ∨ s = 7 then (if s = 5 then O &&& K else if s = 4 ∨ s = 7 then S else A) else (if s = 5 then (O ^^^ (-1)) &&& K else if s = 4 ∨ s = 7 then Z else Y)))) := by
  have pb : ∀ X v, fl_cl fl_C 20 [.ref b, .int (Int32.ofNat k), .long v] (fl_wl h qa X) = some (some none, fl_wl (fl_wl h qa X) qb (fl_up (fl_l (fl_wl h qa X) qb) k v)) := fun X v => fc_put cb (h := fl_wl h qa X) hg hk v
  have pa : ∀ v, fl_cl fl_C 20 [.ref a, .int (Int32.ofNat k), .long v] h = some (some none, fl_wl h qa (fl_up (fl_l h qa) k v)) := fun v => fc_put ca hg hk v
  have kb : ∀ X, fl_k (fl_wl h qa X) b = (1, 1) := fun X => by rw [fl_k_wl, hg.1, cb.1]
  have ka : fl_k h a = (1, 1) := by rw [hg.1, ca.1]
  have e112 := fc_112 (h := h) (show s < 256 by omega)
  clear ca cb
  rw [fbC_113_61]
  rcases (show s = 1 ∨ s = 2 ∨ s = 3 ∨ s = 4 ∨ s = 5 ∨ s = 6 ∨ s = 7 ∨ s = 8 by omega) with e | e | e | e | e | e | e | e <;> subst e <;>
    simp (disch := omega) only [fl_lit, fl_nadd, fl_nmul, fl_ndiv, fl_nsub, fl_msub, fl_nle, fl_nlt, fl_neq, fl_nclamp, fl_nin, fl_ltT, fl_ltF, fl_leT, fl_leF, fl_eqT, fl_eqF, decide_true, decide_false, Bool.true_and, Bool.and_true, Bool.false_and, Bool.and_false, if_true, if_false, Bool.false_eq_true, Option.isSome_some, Option.getD_some, not_true_eq_false, not_false_eq_true, Option.toList_some, Option.toList_none, List.cons_append, List.nil_append, fbC_113_211, fbC_113_216, fbC_113_244, fbC_113_276, e112, fbP_113_283, fbP_113_303, fbP_113_321, ka, kb, pa, pb, true_or, or_true, or_false, false_or]
theorem fc_113 {k0 : Nat → Nat × Nat} {h : fl_H} {g : Nat → Nat} {n o : Nat} (hg : fl_g k0 h) (nn : fl_isN k0 n) (ss : fl_isS k0 o) (w : fl_wf g) (d : fl_net h n g) {k : Nat} (hk : g 1 ≤ k) (hk2 : k < g 0) (lv : Nat → Bool) {a qa b qb : Nat} (ca : fl_isC k0 a qa 12) (cb : fl_isC k0 b qb 12) (val : Nat → Nat → Nat)
    (hv : ∀ i, i < g (28 + k) → fl_l h (o + 2) (g (52 + (g (16 + k) + i))) = fl_B (fun c => decide (val c (g (52 + (g (16 + k) + i))) = 1)) ∧ fl_l h (o + 4) (g (52 + (g (16 + k) + i))) = fl_B (fun c => decide (val c (g (52 + (g (16 + k) + i))) = 0))) :
    fl_cl fl_C 113 [.ref o, .ref n, .int (Int32.ofNat k), .long (fl_B lv), .ref a, .ref b] h = some (some none, fl_wl (fl_wl h qa (fl_up (fl_l h qa) k (fl_B (fun c => decide (fl_gt g (fl_fa lv c) (val c) k = 1))))) qb (fl_up (fl_l (fl_wl h qa (fl_up (fl_l h qa) k (fl_B (fun c => decide (fl_gt g (fl_fa lv c) (val c) k = 1))))) qb) k (fl_B (fun c => decide (fl_gt g (fl_fa lv c) (val c) k = 0))))) := by
  have w1 := w.1
  have wk := w.2.2.1 k hk hk2
  have wb := w.2.2.2.2.2.2.2.2.1
  have b1 := wb (4 + k) (by omega)
  have b2 := wb (16 + k) (by omega)
  have b3 := wb (28 + k) (by omega)
  have hf : fl_l h (n + 6) k = Int64.ofNat (g (16 + k)) := by rw [d.2.2.2.1 k hk2, if_neg (by omega)]
  have lp := fl_iter (fun i => fl_Rn fl_C 113 61 [some (.ref o), some (.ref n), some (.int (Int32.ofNat k)), some (.long (fl_B lv)), none, some (.ref a), some (.ref b), some (.int (Int32.ofNat (g (4 + k)))), none, some (.int (Int32.ofNat (g (16 + k) + g (28 + k)))),
      some (.long (fl_B (fun c => decide (fl_gn g (fl_fa lv c) (val c) k 1 i = i)))), none, some (.long (fl_B (fun c => decide (0 < fl_gn g (fl_fa lv c) (val c) k 1 i)))), none, some (.long (fl_B (fun c => decide (fl_gn g (fl_fa lv c) (val c) k 0 i = i)))), none, some (.long (fl_B (fun c => decide (0 < fl_gn g (fl_fa lv c) (val c) k 0 i)))), none, some (.long (fl_B (fun c => decide (fl_gn g (fl_fa lv c) (val c) k 1 i % 2 = 1)))), none, some (.long (fl_B (fun c => decide (fl_gn g (fl_fa lv c) (val c) k 0 i + fl_gn g (fl_fa lv c) (val c) k 1 i = i)))), none, some (.int (Int32.ofNat (g (16 + k) + i)))] [] h) (g (28 + k)) (by
    intro i hi
    obtain ⟨v1, v0⟩ := hv i hi
    have hr := w.2.2.2.2.1 (g (16 + k) + i) (by omega)
    try dsimp only
    rw [fbC_113_61]
    have p0 : fl_cl fl_C 111 [.ref n, .int (Int32.ofNat (g (16 + k) + i)), .int (Int32.ofNat 0)] h = some (some (some (.int (Int32.ofNat (2 * (g 0 + (g (16 + k) + i)))))), h) := fc_111 hg nn w d (show g (16 + k) + i < 20 by omega) (show 0 < 2 by omega)
    have p1 := fc_111 hg nn w d (show g (16 + k) + i < 20 by omega) (show 1 < 2 by omega)
    have hn : fl_l h (n + 10) (g (16 + k) + i) = Int64.ofNat (g (52 + (g (16 + k) + i))) := d.2.2.2.2.2.1 _ (by omega)
    have O1 : (fl_B (fun c => decide (val c (g (52 + (g (16 + k) + i))) = 1)) &&& ((fl_B lv &&& ((1 : Int64) <<< (Int32.toInt64 (Int32.ofNat (2 * (g 0 + (g (16 + k) + i)))) &&& 63))) ^^^ (-1))) ||| (fl_B lv &&& ((1 : Int64) <<< (Int32.toInt64 (Int32.ofNat (2 * (g 0 + (g (16 + k) + i)) + 1)) &&& 63))) = fl_B (fun c => decide (fl_pv g (fl_fa lv c) (val c) (g (16 + k) + i) = 1)) := by
      rw [fl_B_bit (by omega), fl_B_bit (by omega), fl_B_m1, fl_B_and, fl_B_and, fl_B_xor, fl_B_and, fl_B_or]
      exact fl_B_congr (fun c hc => fl_pin1 hc (by omega))
    have O0 : (fl_B (fun c => decide (val c (g (52 + (g (16 + k) + i))) = 0)) &&& ((fl_B lv &&& ((1 : Int64) <<< (Int32.toInt64 (Int32.ofNat (2 * (g 0 + (g (16 + k) + i)) + 1)) &&& 63))) ^^^ (-1))) ||| (fl_B lv &&& ((1 : Int64) <<< (Int32.toInt64 (Int32.ofNat (2 * (g 0 + (g (16 + k) + i)))) &&& 63))) = fl_B (fun c => decide (fl_pv g (fl_fa lv c) (val c) (g (16 + k) + i) = 0)) := by
      rw [fl_B_bit (by omega), fl_B_bit (by omega), fl_B_m1, fl_B_and, fl_B_and, fl_B_xor, fl_B_and, fl_B_or]
      exact fl_B_congr (fun c hc => fl_pin0 hc (by omega))
    have le := fun c => fl_gn_le (g := g) (f := fl_fa lv c) (v := val c) (k := k) i
    have A1 : fl_B (fun c => decide (fl_gn g (fl_fa lv c) (val c) k 1 i = i)) &&& fl_B (fun c => decide (fl_pv g (fl_fa lv c) (val c) (g (16 + k) + i) = 1)) = fl_B (fun c => decide (fl_gn g (fl_fa lv c) (val c) k 1 (i + 1) = i + 1)) := by
      rw [fl_B_and]
      exact fl_B_congr (fun c _ => fl_st1 (by have := le c; omega))
    have A2 : fl_B (fun c => decide (0 < fl_gn g (fl_fa lv c) (val c) k 1 i)) ||| fl_B (fun c => decide (fl_pv g (fl_fa lv c) (val c) (g (16 + k) + i) = 1)) = fl_B (fun c => decide (0 < fl_gn g (fl_fa lv c) (val c) k 1 (i + 1))) := by
      rw [fl_B_or]
      exact fl_B_congr (fun c _ => fl_st2)
    have A3 : fl_B (fun c => decide (fl_gn g (fl_fa lv c) (val c) k 0 i = i)) &&& fl_B (fun c => decide (fl_pv g (fl_fa lv c) (val c) (g (16 + k) + i) = 0)) = fl_B (fun c => decide (fl_gn g (fl_fa lv c) (val c) k 0 (i + 1) = i + 1)) := by
      rw [fl_B_and]
      exact fl_B_congr (fun c _ => fl_st1 (by have := le c; omega))
    have A4 : fl_B (fun c => decide (0 < fl_gn g (fl_fa lv c) (val c) k 0 i)) ||| fl_B (fun c => decide (fl_pv g (fl_fa lv c) (val c) (g (16 + k) + i) = 0)) = fl_B (fun c => decide (0 < fl_gn g (fl_fa lv c) (val c) k 0 (i + 1))) := by
      rw [fl_B_or]
      exact fl_B_congr (fun c _ => fl_st2)
    have A5 : fl_B (fun c => decide (fl_gn g (fl_fa lv c) (val c) k 1 i % 2 = 1)) ^^^ fl_B (fun c => decide (fl_pv g (fl_fa lv c) (val c) (g (16 + k) + i) = 1)) = fl_B (fun c => decide (fl_gn g (fl_fa lv c) (val c) k 1 (i + 1) % 2 = 1)) := by
      rw [fl_B_xor]
      exact fl_B_congr (fun c _ => fl_st3)
    have A6 : fl_B (fun c => decide (fl_gn g (fl_fa lv c) (val c) k 0 i + fl_gn g (fl_fa lv c) (val c) k 1 i = i)) &&& (fl_B (fun c => decide (fl_pv g (fl_fa lv c) (val c) (g (16 + k) + i) = 1)) ||| fl_B (fun c => decide (fl_pv g (fl_fa lv c) (val c) (g (16 + k) + i) = 0))) = fl_B (fun c => decide (fl_gn g (fl_fa lv c) (val c) k 0 (i + 1) + fl_gn g (fl_fa lv c) (val c) k 1 (i + 1) = i + 1)) := by
      rw [fl_B_or, fl_B_and]
      exact fl_B_congr (fun c _ => fl_st4 (le c))
    have b52 := wb (52 + (g (16 + k) + i)) (by omega)
    have g0 : g 0 ≤ 12 := by omega
    have rl : g (52 + (g (16 + k) + i)) < 12 := by omega
    have pl : g (16 + k) + i < 20 := by omega
    clear hv wb w d le wk w1 hf
    simp (disch := first | omega | assumption) only [hg.1, hg.2, nn.1, nn.2.2.2.2.2.1, hn, fl_o32, fc_int nn.2.2.2.2.2.1, fl_lit, fl_nadd, fl_nmul, fl_ndiv, fl_nsub, fl_msub, fl_nle, fl_nlt, fl_neq, fl_nclamp, fl_nin, fl_ltT, fl_ltF, fl_leT, fl_leF, fl_eqT, fl_eqF, decide_true, decide_false, Bool.true_and, Bool.and_true, Bool.false_and, Bool.and_false, if_true, if_false, Bool.false_eq_true, Option.isSome_some, Option.getD_some, not_true_eq_false, not_false_eq_true, Option.toList_some, Option.toList_none, List.cons_append, List.nil_append, fbP_113_77, p0, p1, fbP_113_88, fbP_113_101, ss.1, ss.2.1, ss.2.2.1, fc_at ss.2.1, fc_at ss.2.2.1, fbP_113_114, fbP_113_135, v1, v0, O1, O0, A1, A2, A3, A4, A5, A6, Nat.add_assoc])
  have le := fun c => fl_gn_le (g := g) (f := fl_fa lv c) (v := val c) (k := k) (g (28 + k))
  have k12 : k < 12 := by have := w1.2.2.2.1; omega
  have es := d.2.1 k hk2
  have ew := d.2.2.1 k hk2
  have wd3 := wk.2.2.2.1
  have hs8 : 1 ≤ g (4 + k) ∧ g (4 + k) ≤ 8 := ⟨wk.1, wk.2.1⟩
  have b123 : g (16 + k) + g (28 + k) < 100 := by omega
  have hwd := wk.2.2.2.2.2.2.2
  rw [fbE_113]
  have fin : ∀ one zro one' zro', one = one' → zro = zro' → some ((some none : Option (Option Value)), fl_wl (fl_wl h qa (fl_up (fl_l h qa) k one)) qb (fl_up (fl_l (fl_wl h qa (fl_up (fl_l h qa) k one)) qb) k zro)) = some (some none, fl_wl (fl_wl h qa (fl_up (fl_l h qa) k one')) qb (fl_up (fl_l (fl_wl h qa (fl_up (fl_l h qa) k one')) qb) k zro')) := fun one zro one' zro' h1 h0 => by rw [h1, h0]
  have le := fun c => fl_gn_le (g := g) (f := fl_fa lv c) (v := val c) (k := k) (g (28 + k))
  clear hv wb w d wk w1
  simp (disch := first | omega | assumption) only [hg.1, hg.2, nn.1, nn.2.1, nn.2.2.1, nn.2.2.2.1, es, ew, hf, fl_o32, fc_int nn.2.1, fc_int nn.2.2.1, fc_int nn.2.2.2.1, fl_lit, fl_nadd, fl_nmul, fl_ndiv, fl_nsub, fl_msub, fl_nle, fl_nlt, fl_neq, fl_nclamp, fl_nin, fl_ltT, fl_ltF, fl_leT, fl_leF, fl_eqT, fl_eqF, decide_true, decide_false, Bool.true_and, Bool.and_true, Bool.false_and, Bool.and_false, if_true, if_false, Bool.false_eq_true, Option.isSome_some, Option.getD_some, not_true_eq_false, not_false_eq_true, Option.toList_some, Option.toList_none, List.cons_append, List.nil_append, fbP_113_8, fbP_113_18, fbP_113_30]
  rw [show (-1 : Int64) = fl_B (fun _ => true) from fl_B_m1, show (0 : Int64) = fl_B (fun _ => false) from fl_B_0]
  refine lp.trans ?_
  clear lp
  refine (fc_113e hg k12 hs8 (Nat.le_refl _) b123 ca cb _ _ _ _ _ _ _).trans (fin _ _ _ _ ?_ ?_)
  · rcases (show g (4 + k) = 1 ∨ g (4 + k) = 2 ∨ g (4 + k) = 3 ∨ g (4 + k) = 4 ∨ g (4 + k) = 5 ∨ g (4 + k) = 6 ∨ g (4 + k) = 7 ∨ g (4 + k) = 8 by omega) with e | e | e | e | e | e | e | e <;> rw [e] at hwd <;> simp (disch := omega) only [e, fl_lit, fl_nadd, fl_nmul, fl_ndiv, fl_nsub, fl_msub, fl_nle, fl_nlt, fl_neq, fl_nclamp, fl_nin, fl_ltT, fl_ltF, fl_leT, fl_leF, fl_eqT, fl_eqF, decide_true, decide_false, Bool.true_and, Bool.and_true, Bool.false_and, Bool.and_false, if_true, if_false, Bool.false_eq_true, Option.isSome_some, Option.getD_some, not_true_eq_false, not_false_eq_true, Option.toList_some, Option.toList_none, List.cons_append, List.nil_append, true_or, or_true, or_false, false_or, fl_gt]
    · exact fl_B_congr fun c _ => decide_eq_decide.mpr (fl_gB (hwd.mp (by omega)) (le c)).2
    · exact fl_B_congr fun c _ => decide_eq_decide.mpr (fl_gA (Or.inl rfl) (hwd.mp (by omega)) (le c)).1
    · exact fl_B_congr fun c _ => decide_eq_decide.mpr (fl_gC (le c)).1
    · exact fl_B_congr fun c _ => decide_eq_decide.mpr (fl_gE (le c)).1
    · rw [fl_B_and]; exact fl_B_congr fun c _ => by rw [← Bool.decide_and]; exact decide_eq_decide.mpr fl_gG.1
    · exact fl_B_congr fun c _ => decide_eq_decide.mpr (fl_gD (le c)).2
    · exact fl_B_congr fun c _ => decide_eq_decide.mpr (fl_gF (le c)).2
    · exact fl_B_congr fun c _ => decide_eq_decide.mpr (fl_gA (Or.inr rfl) (hwd.mp (by omega)) (le c)).1
  · rcases (show g (4 + k) = 1 ∨ g (4 + k) = 2 ∨ g (4 + k) = 3 ∨ g (4 + k) = 4 ∨ g (4 + k) = 5 ∨ g (4 + k) = 6 ∨ g (4 + k) = 7 ∨ g (4 + k) = 8 by omega) with e | e | e | e | e | e | e | e <;> rw [e] at hwd <;> simp (disch := omega) only [e, fl_lit, fl_nadd, fl_nmul, fl_ndiv, fl_nsub, fl_msub, fl_nle, fl_nlt, fl_neq, fl_nclamp, fl_nin, fl_ltT, fl_ltF, fl_leT, fl_leF, fl_eqT, fl_eqF, decide_true, decide_false, Bool.true_and, Bool.and_true, Bool.false_and, Bool.and_false, if_true, if_false, Bool.false_eq_true, Option.isSome_some, Option.getD_some, not_true_eq_false, not_false_eq_true, Option.toList_some, Option.toList_none, List.cons_append, List.nil_append, true_or, or_true, or_false, false_or, fl_gt]
    · exact fl_B_congr fun c _ => decide_eq_decide.mpr (fl_gB (hwd.mp (by omega)) (le c)).1
    · exact fl_B_congr fun c _ => decide_eq_decide.mpr (fl_gA (Or.inl rfl) (hwd.mp (by omega)) (le c)).2
    · exact fl_B_congr fun c _ => decide_eq_decide.mpr (fl_gC (le c)).2
    · exact fl_B_congr fun c _ => decide_eq_decide.mpr (fl_gE (le c)).2
    · rw [fl_B_m1, fl_B_xor, fl_B_and]; exact fl_B_congr fun c _ => by rw [Bool.xor_true, ← decide_not, ← Bool.decide_and]; exact decide_eq_decide.mpr fl_gG.2
    · exact fl_B_congr fun c _ => decide_eq_decide.mpr (fl_gD (le c)).1
    · exact fl_B_congr fun c _ => decide_eq_decide.mpr (fl_gF (le c)).1
    · exact fl_B_congr fun c _ => decide_eq_decide.mpr (fl_gA (Or.inr rfl) (hwd.mp (by omega)) (le c)).2
