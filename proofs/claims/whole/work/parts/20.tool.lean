/-! TOOLS -/
theorem fl_ifp {α : Type} {b : Bool} (h : b = true) (x y : α) : (if b = true then x else y) = x := if_pos h
theorem fl_ifd {α : Type} {p : Prop} [Decidable p] (h : p) (x y : α) : (if decide p = true then x else y) = x := if_pos (decide_eq_true h)
theorem fl_ifn {α : Type} {p : Prop} [Decidable p] (h : ¬ p) (x y : α) : (if decide p = true then x else y) = y := if_neg (fun z => h (of_decide_eq_true z))
theorem fl_i32_lt0 (i : Int32) : i < 0 ↔ i.toInt < 0 := by
  rw [Int32.lt_iff_toInt_lt]; rfl
theorem fl_i32_nat {i : Int32} (h : ¬ i < 0) : (i.toNatClampNeg : Int) = i.toInt := by
  rw [fl_i32_lt0] at h
  show ((i.toInt.toNat : Nat) : Int) = i.toInt
  omega
theorem fl_toI {n : Nat} (h : n < 2147483648) : (Int32.ofNat n).toInt = (n : Int) := Int32.toInt_ofNat_of_lt (by omega)
theorem fl_i32_ofNat {n : Nat} (h : n < 100000) : (Int32.ofNat n).toInt = (n : Int) := fl_toI (by omega)
theorem fl_i32_le {i : Int32} {n : Nat} (h : ¬ i < 0) (hn : n < 100000) : Int32.ofNat n ≤ i ↔ n ≤ i.toNatClampNeg := by
  have h1 := fl_i32_nat h
  rw [Int32.le_iff_toInt_le, fl_i32_ofNat hn]
  omega
theorem fl_in_iff {i : Int32} {n : Nat} : fl_in i n = true ↔ ¬ i < 0 ∧ i.toNatClampNeg < n := by
  unfold fl_in
  simp only [Bool.not_eq_true', Bool.or_eq_false_iff, decide_eq_false_iff_not, Nat.not_le]
theorem fl_ofN {k : Nat} (hk : k < 2147483648) : (Int32.ofNat k).toNatClampNeg = k ∧ ¬ Int32.ofNat k < 0 := by
  have h1 := fl_toI hk
  constructor
  · show (Int32.ofNat k).toInt.toNat = k
    rw [h1]; rfl
  · rw [fl_i32_lt0, h1]; omega
theorem fl_nin {k n : Nat} (hk : k < 2147483648) : fl_in (Int32.ofNat k) n = decide (k < n) := by
  obtain ⟨h1, h2⟩ := fl_ofN hk
  by_cases h : k < n
  · rw [decide_eq_true h]; exact fl_in_iff.mpr ⟨h2, by rw [h1]; exact h⟩
  · rw [decide_eq_false h]
    cases hz : fl_in (Int32.ofNat k) n with
    | false => rfl
    | true => exact absurd (by rw [← h1]; exact (fl_in_iff.mp hz).2) h
theorem fl_in_of {k n : Nat} (hk : k < 100000) : fl_in (Int32.ofNat k) n = decide (k < n) := fl_nin (by omega)
theorem fl_succ {k : Nat} : Int32.ofNat k + 1 = Int32.ofNat (k + 1) := (Int32.ofNat_add k 1).symm
theorem fl_lit (n : Nat) : (@OfNat.ofNat Int32 n Int32.instOfNat) = Int32.ofNat (@OfNat.ofNat Nat n (instOfNatNat n)) := rfl
theorem fl_nadd (a b : Nat) : Int32.ofNat a + Int32.ofNat b = Int32.ofNat (a + b) := (Int32.ofNat_add a b).symm
theorem fl_nmul (a b : Nat) : Int32.ofNat a * Int32.ofNat b = Int32.ofNat (a * b) := (Int32.ofNat_mul a b).symm
theorem fl_nsub {a b : Nat} (h : b ≤ a) : Int32.ofNat a - Int32.ofNat b = Int32.ofNat (a - b) := by
  have := fl_nadd (a - b) b
  rw [Nat.sub_add_cancel h] at this
  rw [← this, Int32.add_sub_cancel]
theorem fl_nle {a b : Nat} (ha : a < 2147483648) (hb : b < 2147483648) : (Int32.ofNat a ≤ Int32.ofNat b) = (a ≤ b) := by
  rw [Int32.le_iff_toInt_le, fl_toI ha, fl_toI hb]
  exact propext (by omega)
theorem fl_nlt {a b : Nat} (ha : a < 2147483648) (hb : b < 2147483648) : (Int32.ofNat a < Int32.ofNat b) = (a < b) := by
  rw [Int32.lt_iff_toInt_lt, fl_toI ha, fl_toI hb]
  exact propext (by omega)
theorem fl_neq {a b : Nat} (ha : a < 2147483648) (hb : b < 2147483648) : (Int32.ofNat a = Int32.ofNat b) = (a = b) := by
  apply propext
  constructor
  · intro h
    have := congrArg Int32.toInt h
    rw [fl_toI ha, fl_toI hb] at this
    omega
  · intro h; rw [h]
theorem fl_ndiv {a b : Nat} (ha : a < 2147483648) (hb : b < 2147483648) (hb0 : 0 < b) : Int32.ofNat a / Int32.ofNat b = Int32.ofNat (a / b) := by
  have h1 := lg_idiv_nonneg (x := Int32.ofNat a) (y := Int32.ofNat b) (by rw [fl_toI ha]; omega) (by rw [fl_toI hb]; omega)
  have h2 : a / b ≤ a := Nat.div_le_self a b
  apply Int32.toInt_inj.mp
  rw [h1, fl_toI ha, fl_toI hb, fl_toI (by omega)]
  exact (Int.natCast_ediv a b).symm
theorem fl_dle (a b : Nat) : a / b * b ≤ a := Nat.div_mul_le_self a b
theorem fl_msub (a b : Nat) : a - a / b * b = a % b := by
  have := Nat.div_add_mod a b
  rw [Nat.mul_comm] at this
  omega
theorem fl_nmod (a b : Nat) : Int32.ofNat a - Int32.ofNat (a / b * b) = Int32.ofNat (a % b) := by
  rw [fl_nsub (fl_dle a b), fl_msub]
theorem fl_nclamp {a : Nat} (ha : a < 2147483648) : (Int32.ofNat a).toNatClampNeg = a := (fl_ofN ha).1
theorem fl_neg1 {a : Nat} (ha : a < 2147483648) : (Int32.ofNat a = -Int32.ofNat 1) = False := by
  apply eq_false
  intro h
  have := congrArg Int32.toInt h
  rw [fl_toI ha, show (-Int32.ofNat 1).toInt = -1 from by decide] at this
  omega
theorem fl_ltT {a b : Nat} (h : a < b) : (a < b) = True := eq_true h
theorem fl_ltF {a b : Nat} (h : b ≤ a) : (a < b) = False := eq_false (by omega)
theorem fl_leT {a b : Nat} (h : a ≤ b) : (a ≤ b) = True := eq_true h
theorem fl_leF {a b : Nat} (h : b < a) : (a ≤ b) = False := eq_false (by omega)
theorem fl_eqT {a b : Nat} (h : a = b) : (a = b) = True := eq_true h
theorem fl_eqF {a b : Nat} (h : a < b ∨ b < a) : (a = b) = False := eq_false (by omega)
theorem fl_bT : fl_b01 (Int32.ofNat 1) = true := rfl
theorem fl_bF : fl_b01 (Int32.ofNat 0) = true := rfl
/-- a loop that goes n times round -/
theorem fl_iter {β : Type} (F : Nat → β) (n : Nat) (hs : ∀ k, k < n → F k = F (k + 1)) : F 0 = F n := by
  induction n with
  | zero => rfl
  | succ n ih => exact (ih (fun k hk => hs k (by omega))).trans (hs n (by omega))
def fl_any (q : Nat → Bool) : Nat → Bool
  | 0 => false
  | n + 1 => fl_any q n || q n
theorem fl_any_iff {q : Nat → Bool} : ∀ {n : Nat}, fl_any q n = true ↔ ∃ k, k < n ∧ q k = true
  | 0 => by
    constructor
    · intro h; cases h
    · rintro ⟨k, hk, -⟩; omega
  | n + 1 => by
    rw [fl_any, Bool.or_eq_true, fl_any_iff]
    constructor
    · rintro (⟨k, hk, hq⟩ | hq)
      · exact ⟨k, by omega, hq⟩
      · exact ⟨n, by omega, hq⟩
    · rintro ⟨k, hk, hq⟩
      by_cases e : k = n
      · subst e; exact Or.inr hq
      · exact Or.inl ⟨k, by omega, hq⟩
theorem fl_any_congr {q q' : Nat → Bool} : ∀ {n : Nat}, (∀ i, i < n → q i = q' i) → fl_any q n = fl_any q' n
  | 0, _ => rfl
  | n + 1, h => by rw [fl_any, fl_any, fl_any_congr (fun i hi => h i (by omega)), h n (by omega)]
/-- a loop that may end before -/
theorem fl_find {β : Type} (F : Nat → β) (T : β) (q : Nat → Bool) (n : Nat) (hs : ∀ k, k < n → F k = if q k = true then T else F (k + 1)) : F 0 = if fl_any q n = true then T else F n := by
  induction n with
  | zero => rfl
  | succ n ih =>
    rw [ih (fun k hk => hs k (by omega)), hs n (by omega), fl_any]
    cases fl_any q n with
    | true => rfl
    | false => rfl
/-- a loop, by what holds at its head -/
theorem fl_loop {α : Type} {F : Nat → α → Option fl_O} (P : Nat → α → Prop) {G : Option fl_O → Prop} (n : Nat) (hx : ∀ x, P n x → G (F n x)) (hs : ∀ k x, k < n → P k x → (∀ y, P (k + 1) y → G (F (k + 1) y)) → G (F k x)) : ∀ k x, k ≤ n → P k x → G (F k x) := by
  have key : ∀ m k, k + m = n → ∀ x, P k x → G (F k x) := by
    intro m
    induction m with
    | zero =>
      intro k hk x hp
      have : k = n := by omega
      subst this
      exact hx x hp
    | succ m ih =>
      intro k hk x hp
      exact hs k x (by omega) hp (fun y hy => ih (k + 1) (by omega) y hy)
  intro k x hk
  exact key (n - k) k (by omega) x
/-- ends without a throw, and so -/
def fl_to (o : Option fl_O) (Q : Option Value → fl_H → Prop) : Prop := ∃ v h', o = some (some v, h') ∧ Q v h'
theorem fl_to_mk {v : Option Value} {h : fl_H} {Q : Option Value → fl_H → Prop} (q : Q v h) : fl_to (some (some v, h)) Q := ⟨v, h, rfl, q⟩
/-! HEAPS: arrays as a whole -/
def fl_wl (h : fl_H) (q : Nat) (g : Nat → Int64) : fl_H := (h.1, h.2.1, h.2.2.1, h.2.2.2.1, fun b => if b = q then g else fl_l h b)
def fl_wi (h : fl_H) (q : Nat) (g : Nat → Int32) : fl_H := (h.1, h.2.1, h.2.2.1, (fun b => if b = q then g else fl_i h b), h.2.2.2.2)
theorem fl_k_wl {h : fl_H} {q : Nat} {g : Nat → Int64} : fl_k (fl_wl h q g) = fl_k h := rfl
theorem fl_r_wl {h : fl_H} {q : Nat} {g : Nat → Int64} : fl_r (fl_wl h q g) = fl_r h := rfl
theorem fl_i_wl {h : fl_H} {q : Nat} {g : Nat → Int64} : fl_i (fl_wl h q g) = fl_i h := rfl
theorem fl_1_wl {h : fl_H} {q : Nat} {g : Nat → Int64} : (fl_wl h q g).1 = h.1 := rfl
theorem fl_l_wl {h : fl_H} {q : Nat} {g : Nat → Int64} (b : Nat) : fl_l (fl_wl h q g) b = if b = q then g else fl_l h b := rfl
theorem fl_k_wi {h : fl_H} {q : Nat} {g : Nat → Int32} : fl_k (fl_wi h q g) = fl_k h := rfl
theorem fl_r_wi {h : fl_H} {q : Nat} {g : Nat → Int32} : fl_r (fl_wi h q g) = fl_r h := rfl
theorem fl_l_wi {h : fl_H} {q : Nat} {g : Nat → Int32} : fl_l (fl_wi h q g) = fl_l h := rfl
theorem fl_1_wi {h : fl_H} {q : Nat} {g : Nat → Int32} : (fl_wi h q g).1 = h.1 := rfl
theorem fl_i_wi {h : fl_H} {q : Nat} {g : Nat → Int32} (b : Nat) : fl_i (fl_wi h q g) b = if b = q then g else fl_i h b := rfl
theorem fl_H_ext {h h' : fl_H} (h1 : h.1 = h'.1) (h2 : fl_k h = fl_k h') (h3 : fl_r h = fl_r h') (h4 : fl_i h = fl_i h') (h5 : fl_l h = fl_l h') : h = h' := by
  obtain ⟨a, b, c, d, e⟩ := h
  obtain ⟨a', b', c', d', e'⟩ := h'
  cases h1; cases h2; cases h3; cases h4; cases h5
  rfl
theorem fl_wl_self {h : fl_H} {q : Nat} {g : Nat → Int64} (hg : g = fl_l h q) : fl_wl h q g = h := by
  refine fl_H_ext rfl rfl rfl rfl ?_
  funext b
  rw [fl_l_wl]
  by_cases e : b = q
  · rw [if_pos e, hg, e]
  · rw [if_neg e]
theorem fl_wi_self {h : fl_H} {q : Nat} {g : Nat → Int32} (hg : g = fl_i h q) : fl_wi h q g = h := by
  refine fl_H_ext rfl rfl rfl ?_ rfl
  funext b
  rw [fl_i_wi]
  by_cases e : b = q
  · rw [if_pos e, hg, e]
  · rw [if_neg e]
theorem fl_wl_wl {h : fl_H} {q : Nat} {f g : Nat → Int64} : fl_wl (fl_wl h q f) q g = fl_wl h q g := by
  refine fl_H_ext rfl rfl rfl rfl ?_
  funext b
  rw [fl_l_wl, fl_l_wl, fl_l_wl]
  by_cases e : b = q
  · rw [if_pos e, if_pos e]
  · rw [if_neg e, if_neg e, if_neg e]
theorem fl_wi_wi {h : fl_H} {q : Nat} {f g : Nat → Int32} : fl_wi (fl_wi h q f) q g = fl_wi h q g := by
  refine fl_H_ext rfl rfl rfl ?_ rfl
  funext b
  rw [fl_i_wi, fl_i_wi, fl_i_wi]
  by_cases e : b = q
  · rw [if_pos e, if_pos e]
  · rw [if_neg e, if_neg e, if_neg e]
theorem fl_wl_comm {h : fl_H} {q r : Nat} {f g : Nat → Int64} (hn : q ≠ r) : fl_wl (fl_wl h q f) r g = fl_wl (fl_wl h r g) q f := by
  refine fl_H_ext rfl rfl rfl rfl ?_
  funext b
  rw [fl_l_wl, fl_l_wl, fl_l_wl, fl_l_wl]
  by_cases e : b = r
  · rw [if_pos e, if_neg (fun z => hn (z.symm.trans e)), if_pos e]
  · rw [if_neg e, if_neg e]
/-- a function changed at a place -/
def fl_up {α : Type} (f : Nat → α) (j : Nat) (v : α) : Nat → α := fun k => if k = j then v else f k
theorem fl_up_self {α : Type} {f : Nat → α} {j : Nat} {v : α} : fl_up f j v j = v := if_pos rfl
theorem fl_up_ne {α : Type} {f : Nat → α} {j : Nat} {v : α} {k : Nat} (h : k ≠ j) : fl_up f j v k = f k := if_neg h
theorem fl_sl_wl {h : fl_H} {q j : Nat} {v : Int64} : fl_sl h q j v = fl_wl h q (fl_up (fl_l h q) j v) := by
  refine fl_H_ext rfl rfl rfl rfl ?_
  funext b
  rw [fl_l_wl]
  by_cases e : b = q
  · rw [if_pos e, e]
    exact fl_u_self _ _ _ _
  · rw [if_neg e]
    exact fl_u_ne _ _ _ e
theorem fl_si_wi {h : fl_H} {q j : Nat} {v : Int32} : fl_si h q j v = fl_wi h q (fl_up (fl_i h q) j v) := by
  refine fl_H_ext rfl rfl rfl ?_ rfl
  funext b
  rw [fl_i_wi]
  by_cases e : b = q
  · rw [if_pos e, e]
    exact fl_u_self _ _ _ _
  · rw [if_neg e]
    exact fl_u_ne _ _ _ e
theorem fl_k_si {h : fl_H} {q j : Nat} {v : Int32} : fl_k (fl_si h q j v) = fl_k h := rfl
theorem fl_r_si {h : fl_H} {q j : Nat} {v : Int32} : fl_r (fl_si h q j v) = fl_r h := rfl
theorem fl_l_si {h : fl_H} {q j : Nat} {v : Int32} : fl_l (fl_si h q j v) = fl_l h := rfl
theorem fl_k_sl {h : fl_H} {q j : Nat} {v : Int64} : fl_k (fl_sl h q j v) = fl_k h := rfl
theorem fl_r_sl {h : fl_H} {q j : Nat} {v : Int64} : fl_r (fl_sl h q j v) = fl_r h := rfl
theorem fl_i_sl {h : fl_H} {q j : Nat} {v : Int64} : fl_i (fl_sl h q j v) = fl_i h := rfl
theorem fl_i_si {h : fl_H} {q j : Nat} {v : Int32} (b k : Nat) : fl_i (fl_si h q j v) b k = if b = q ∧ k = j then v else fl_i h b k := rfl
theorem fl_l_sl {h : fl_H} {q j : Nat} {v : Int64} (b k : Nat) : fl_l (fl_sl h q j v) b k = if b = q ∧ k = j then v else fl_l h b k := rfl
/-- a stretch of an array, of another -/
def fl_seg {α : Type} (a n : Nat) (f old : Nat → α) : Nat → α := fun j => if a ≤ j ∧ j < a + n then f (j - a) else old j
theorem fl_seg_0 {α : Type} {a : Nat} {f old : Nat → α} : fl_seg a 0 f old = old := by
  funext j
  exact if_neg (by omega)
theorem fl_seg_in {α : Type} {a n j : Nat} {f old : Nat → α} (h : j < n) : fl_seg a n f old (a + j) = f j := by
  unfold fl_seg
  rw [if_pos (by omega), Nat.add_sub_cancel_left]
theorem fl_seg_out {α : Type} {a n j : Nat} {f old : Nat → α} (h : j < a ∨ a + n ≤ j) : fl_seg a n f old j = old j := if_neg (by omega)
theorem fl_seg_succ {α : Type} {a k : Nat} {f old : Nat → α} {x : α} (hx : x = f k) : fl_up (fl_seg a k f old) (a + k) x = fl_seg a (k + 1) f old := by
  funext j
  unfold fl_up fl_seg
  by_cases e : j = a + k
  · rw [if_pos e, if_pos (by omega), hx, e, Nat.add_sub_cancel_left]
  · rw [if_neg e]
    by_cases l : a ≤ j ∧ j < a + k
    · rw [if_pos l, if_pos (by omega)]
    · rw [if_neg l, if_neg (by omega)]
/-- ints change in some cells alone -/
def fl_fx (S : Nat → Prop) (h h' : fl_H) : Prop := h'.1 = h.1 ∧ fl_k h' = fl_k h ∧ fl_r h' = fl_r h ∧ fl_l h' = fl_l h ∧ ∀ b, ¬ S b → fl_i h' b = fl_i h b
theorem fl_fx_rfl {S : Nat → Prop} {h : fl_H} : fl_fx S h h := ⟨rfl, rfl, rfl, rfl, fun _ _ => rfl⟩
theorem fl_fx_tr {S : Nat → Prop} {h h' h'' : fl_H} (a : fl_fx S h h') (b : fl_fx S h' h'') : fl_fx S h h'' := ⟨b.1.trans a.1, b.2.1.trans a.2.1, b.2.2.1.trans a.2.2.1, b.2.2.2.1.trans a.2.2.2.1, fun q hq => (b.2.2.2.2 q hq).trans (a.2.2.2.2 q hq)⟩
theorem fl_fx_mo {S T : Nat → Prop} {h h' : fl_H} (a : fl_fx S h h') (hs : ∀ b, S b → T b) : fl_fx T h h' := ⟨a.1, a.2.1, a.2.2.1, a.2.2.2.1, fun q hq => a.2.2.2.2 q (fun z => hq (hs q z))⟩
theorem fl_fx_wi {S : Nat → Prop} {h h' : fl_H} {q : Nat} {f : Nat → Int32} (a : fl_fx S h h') (hs : S q) : fl_fx S h (fl_wi h' q f) := ⟨a.1, a.2.1, a.2.2.1, a.2.2.2.1, fun b hb => by
  have hn : ¬ b = q := fun z => hb (by rw [z]; exact hs)
  rw [fl_i_wi, if_neg hn]
  exact a.2.2.2.2 b hb⟩
/-- the first n of an array, of another -/
def fl_al {α : Type} (n : Nat) (f old : Nat → α) : Nat → α := fun j => if j < n then f j else old j
theorem fl_al_lt {α : Type} {n : Nat} {f old : Nat → α} {j : Nat} (h : j < n) : fl_al n f old j = f j := if_pos h
theorem fl_al_ge {α : Type} {n : Nat} {f old : Nat → α} {j : Nat} (h : n ≤ j) : fl_al n f old j = old j := if_neg (by omega)
theorem fl_al_0 {α : Type} {f old : Nat → α} : fl_al 0 f old = old := by
  funext j
  exact fl_al_ge (Nat.zero_le j)
theorem fl_al_succ {α : Type} {k : Nat} {f old : Nat → α} {x : α} (hx : x = f k) : fl_up (fl_al k f old) k x = fl_al (k + 1) f old := by
  funext j
  unfold fl_up fl_al
  by_cases e : j = k
  · rw [if_pos e, if_pos (by omega), hx, e]
  · rw [if_neg e]
    by_cases l : j < k
    · rw [if_pos l, if_pos (by omega)]
    · rw [if_neg l, if_neg (by omega)]
theorem fl_loopT {α : Type} {F : Nat → α → Option fl_O} (P : Nat → α → Prop) {Q : Option Value → fl_H → Prop} (n : Nat) (hx : ∀ x, P n x → fl_to (F n x) Q) (hs : ∀ k x, k < n → P k x → (∀ y, P (k + 1) y → fl_to (F (k + 1) y) Q) → fl_to (F k x) Q) : ∀ k x, k ≤ n → P k x → fl_to (F k x) Q := fl_loop P (G := fun o => fl_to o Q) n hx hs
