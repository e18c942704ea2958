/-! BITS of longs -/
def fl_hb (x : Int64) (c : Nat) : Bool := x.toBitVec.getLsbD c
theorem fl_hb_ext {x y : Int64} (h : ∀ c, c < 64 → fl_hb x c = fl_hb y c) : x = y := Int64.toBitVec_inj.mp (BitVec.eq_of_getLsbD_eq h)
theorem fl_hb_and (x y : Int64) (c : Nat) : fl_hb (x &&& y) c = (fl_hb x c && fl_hb y c) := by
  unfold fl_hb; rw [Int64.toBitVec_and, BitVec.getLsbD_and]
theorem fl_hb_or (x y : Int64) (c : Nat) : fl_hb (x ||| y) c = (fl_hb x c || fl_hb y c) := by
  unfold fl_hb; rw [Int64.toBitVec_or, BitVec.getLsbD_or]
theorem fl_hb_xor (x y : Int64) (c : Nat) : fl_hb (x ^^^ y) c = (fl_hb x c ^^ fl_hb y c) := by
  unfold fl_hb; rw [Int64.toBitVec_xor, BitVec.getLsbD_xor]
theorem fl_hb_0 (c : Nat) : fl_hb 0 c = false := by
  unfold fl_hb; rw [Int64.toBitVec_zero, BitVec.getLsbD_zero]
theorem fl_hb_1 : ∀ c, c < 64 → fl_hb 1 c = decide (c = 0) := by decide +kernel
theorem fl_hb_m1 : ∀ c, c < 64 → fl_hb (-1) c = true := by decide +kernel
/-- the amount of a shift -/
theorem fl_amt : ∀ f, f < 64 → (Int32.toInt64 (Int32.ofNat f) &&& 63).toBitVec.smod 64 = BitVec.ofNat 64 f := by decide +kernel
theorem fl_amtu : ∀ f, f < 64 → ((Int32.toInt64 (Int32.ofNat f)).toUInt64 &&& Int64.toUInt64 63).toBitVec % 64 = BitVec.ofNat 64 f := by decide +kernel
theorem fl_toN64 {f : Nat} (hf : f < 64) : (BitVec.ofNat 64 f).toNat = f := by
  rw [BitVec.toNat_ofNat]; omega
theorem fl_hb_shl {f : Nat} (hf : f < 64) (x : Int64) (c : Nat) : fl_hb (x <<< (Int32.toInt64 (Int32.ofNat f) &&& 63)) c = (decide (c < 64) && !decide (c < f) && fl_hb x (c - f)) := by
  unfold fl_hb
  rw [Int64.toBitVec_shiftLeft, fl_amt f hf, BitVec.shiftLeft_eq', fl_toN64 hf, BitVec.getLsbD_shiftLeft]
theorem fl_hb_bit {f c : Nat} (hf : f < 64) (hc : c < 64) : fl_hb (1 <<< (Int32.toInt64 (Int32.ofNat f) &&& 63)) c = decide (c = f) := by
  rw [fl_hb_shl hf, decide_eq_true hc, fl_hb_1 _ (by omega), Bool.true_and]
  by_cases h : c < f
  · rw [decide_eq_true h, decide_eq_false (show ¬ c = f by omega)]; rfl
  · rw [decide_eq_false h, Bool.not_false, Bool.true_and]
    exact decide_eq_decide.mpr (by omega)
theorem fl_hb_sar {f : Nat} (hf : f < 64) (x : Int64) : ((x >>> (Int32.toInt64 (Int32.ofNat f) &&& 63)) &&& 1) = if fl_hb x f = true then 1 else 0 := by
  apply fl_hb_ext
  intro c hc
  rw [fl_hb_and, fl_hb_1 c hc]
  have e : fl_hb (x >>> (Int32.toInt64 (Int32.ofNat f) &&& 63)) 0 = fl_hb x f := by
    unfold fl_hb
    rw [Int64.toBitVec_shiftRight, fl_amt f hf]
    show (x.toBitVec.sshiftRight (BitVec.ofNat 64 f).toNat).getLsbD 0 = _
    rw [fl_toN64 hf, BitVec.getLsbD_sshiftRight]
    simp [hf]
  by_cases h0 : c = 0
  · subst h0
    rw [e]
    cases fl_hb x f
    · simp [fl_hb_0]
    · simp [fl_hb_1]
  · cases fl_hb x f
    · simp [fl_hb_0, h0]
    · simp [fl_hb_1 c hc, h0]
theorem fl_hb_shr {f : Nat} (hf : f < 64) (x : Int64) : (((Int64.toUInt64 x >>> ((Int32.toInt64 (Int32.ofNat f)).toUInt64 &&& Int64.toUInt64 63)).toInt64) &&& 1) = if fl_hb x f = true then 1 else 0 := by
  apply fl_hb_ext
  intro c hc
  rw [fl_hb_and, fl_hb_1 c hc]
  have e : fl_hb ((Int64.toUInt64 x >>> ((Int32.toInt64 (Int32.ofNat f)).toUInt64 &&& Int64.toUInt64 63)).toInt64) 0 = fl_hb x f := by
    unfold fl_hb
    rw [UInt64.toBitVec_toInt64, UInt64.toBitVec_shiftRight, fl_amtu f hf, BitVec.ushiftRight_eq', fl_toN64 hf, BitVec.getLsbD_ushiftRight]
    rfl
  by_cases h0 : c = 0
  · subst h0
    rw [e]
    cases fl_hb x f
    · simp [fl_hb_0]
    · simp [fl_hb_1]
  · cases fl_hb x f
    · simp [fl_hb_0, h0]
    · simp [fl_hb_1 c hc, h0]
/-- the set of those below n, as it is gathered bit by bit -/
def fl_bs (q : Nat → Bool) : Nat → Int64
  | 0 => 0
  | n + 1 => fl_bs q n ||| (if q n = true then 1 <<< (Int32.toInt64 (Int32.ofNat n) &&& 63) else 0)
theorem fl_hb_bs (q : Nat → Bool) : ∀ {n : Nat}, n ≤ 64 → ∀ {c : Nat}, c < 64 → fl_hb (fl_bs q n) c = (decide (c < n) && q c)
  | 0, _, c, _ => by
    rw [fl_bs, fl_hb_0, decide_eq_false (by omega)]; rfl
  | n + 1, hn, c, hc => by
    rw [fl_bs, fl_hb_or, fl_hb_bs q (show n ≤ 64 by omega) hc]
    by_cases e : c = n
    · subst e
      rw [decide_eq_false (by omega), decide_eq_true (show c < c + 1 by omega)]
      cases hq : q c with
      | false => simp [fl_hb_0]
      | true => simp [fl_hb_bit hc hc]
    · have h1 : decide (c < n + 1) = decide (c < n) := decide_eq_decide.mpr (by omega)
      rw [h1]
      cases hq : q n with
      | false => simp [fl_hb_0]
      | true => simp [fl_hb_bit (show n < 64 by omega) hc, e]
/-- a long by its bits -/
def fl_B (q : Nat → Bool) : Int64 := fl_bs q 64
theorem fl_hb_B (q : Nat → Bool) {c : Nat} (hc : c < 64) : fl_hb (fl_B q) c = q c := by
  unfold fl_B
  rw [fl_hb_bs q (Nat.le_refl 64) hc, decide_eq_true hc, Bool.true_and]
theorem fl_B_of {x : Int64} {q : Nat → Bool} (h : ∀ c, c < 64 → fl_hb x c = q c) : x = fl_B q := fl_hb_ext (fun c hc => by rw [h c hc, fl_hb_B q hc])
theorem fl_B_congr {q q' : Nat → Bool} (h : ∀ c, c < 64 → q c = q' c) : fl_B q = fl_B q' := fl_B_of (fun c hc => by rw [fl_hb_B q hc, h c hc])
theorem fl_B_and (q q' : Nat → Bool) : fl_B q &&& fl_B q' = fl_B (fun c => q c && q' c) := fl_B_of (fun c hc => by rw [fl_hb_and, fl_hb_B q hc, fl_hb_B q' hc])
theorem fl_B_or (q q' : Nat → Bool) : fl_B q ||| fl_B q' = fl_B (fun c => q c || q' c) := fl_B_of (fun c hc => by rw [fl_hb_or, fl_hb_B q hc, fl_hb_B q' hc])
theorem fl_B_xor (q q' : Nat → Bool) : fl_B q ^^^ fl_B q' = fl_B (fun c => q c ^^ q' c) := fl_B_of (fun c hc => by rw [fl_hb_xor, fl_hb_B q hc, fl_hb_B q' hc])
theorem fl_B_0 : (0 : Int64) = fl_B (fun _ => false) := fl_B_of (fun c _ => fl_hb_0 c)
theorem fl_B_m1 : (-1 : Int64) = fl_B (fun _ => true) := fl_B_of fl_hb_m1
theorem fl_B_bit {f : Nat} (hf : f < 64) : 1 <<< (Int32.toInt64 (Int32.ofNat f) &&& 63) = fl_B (fun c => decide (c = f)) := fl_B_of (fun _ hc => fl_hb_bit hf hc)
theorem fl_B_bs (q : Nat → Bool) {n : Nat} (hn : n ≤ 64) : fl_bs q n = fl_B (fun c => decide (c < n) && q c) := fl_B_of (fun _ hc => fl_hb_bs q hn hc)
theorem fl_B_eta (x : Int64) : x = fl_B (fl_hb x) := fl_B_of (fun _ _ => rfl)
theorem fl_bs_congr {q q' : Nat → Bool} {n : Nat} (h : ∀ c, c < n → q c = q' c) : fl_bs q n = fl_bs q' n := by
  induction n with
  | zero => rfl
  | succ n ih => rw [fl_bs, fl_bs, ih (fun c hc => h c (by omega)), h n (by omega)]
/-! BITS of ints -/
def fl_hi (x : Int32) (c : Nat) : Bool := x.toBitVec.getLsbD c
theorem fl_hi_ext {x y : Int32} (h : ∀ c, c < 32 → fl_hi x c = fl_hi y c) : x = y := Int32.toBitVec_inj.mp (BitVec.eq_of_getLsbD_eq h)
theorem fl_hi_and (x y : Int32) (c : Nat) : fl_hi (x &&& y) c = (fl_hi x c && fl_hi y c) := by
  unfold fl_hi; rw [Int32.toBitVec_and, BitVec.getLsbD_and]
theorem fl_hi_or (x y : Int32) (c : Nat) : fl_hi (x ||| y) c = (fl_hi x c || fl_hi y c) := by
  unfold fl_hi; rw [Int32.toBitVec_or, BitVec.getLsbD_or]
theorem fl_hi_xor (x y : Int32) (c : Nat) : fl_hi (x ^^^ y) c = (fl_hi x c ^^ fl_hi y c) := by
  unfold fl_hi; rw [Int32.toBitVec_xor, BitVec.getLsbD_xor]
theorem fl_hi_0 : ∀ c, c < 32 → fl_hi (Int32.ofNat 0) c = false := by decide +kernel
theorem fl_hi_bit : ∀ f, f < 32 → ∀ c, c < 32 → fl_hi (Int32.ofNat 1 <<< (Int32.ofNat f &&& Int32.ofNat 31)) c = decide (c = f) := by decide +kernel
/-- bits gathered at places -/
def fl_bi (q : Nat → Bool) (ln : Nat → Nat) : Nat → Int32
  | 0 => Int32.ofNat 0
  | n + 1 => fl_bi q ln n ||| (if q n = true then Int32.ofNat 1 <<< (Int32.ofNat (ln n) &&& Int32.ofNat 31) else Int32.ofNat 0)
theorem fl_hi_bi {q : Nat → Bool} {ln : Nat → Nat} {c : Nat} (hc : c < 32) : ∀ {n : Nat}, (∀ i, i < n → ln i < 32) → fl_hi (fl_bi q ln n) c = fl_any (fun i => q i && decide (c = ln i)) n
  | 0, _ => fl_hi_0 c hc
  | n + 1, h => by
    rw [fl_bi, fl_hi_or, fl_hi_bi hc (fun i hi => h i (by omega)), fl_any]
    congr 1
    cases q n with
    | true => rw [if_pos rfl, fl_hi_bit _ (h n (by omega)) _ hc]; rfl
    | false => rw [if_neg (by decide), fl_hi_0 c hc]; rfl
theorem fl_bi_0 {q : Nat → Bool} {ln : Nat → Nat} {n : Nat} (h : ∀ i, i < n → ln i < 32) : (fl_bi q ln n = Int32.ofNat 0) = (fl_any q n = false) := by
  apply propext
  constructor
  · intro e
    cases ha : fl_any q n with
    | false => rfl
    | true =>
      obtain ⟨k, hk, hq⟩ := fl_any_iff.mp ha
      have h1 := fl_hi_bi (q := q) (ln := ln) (h k hk) h
      rw [e, fl_hi_0 _ (h k hk)] at h1
      rw [fl_any_iff.mpr ⟨k, hk, by rw [hq, decide_eq_true rfl]; rfl⟩] at h1
      cases h1
  · intro e
    apply fl_hi_ext
    intro c hc
    rw [fl_hi_bi hc h, fl_hi_0 c hc]
    cases ha : fl_any (fun i => q i && decide (c = ln i)) n with
    | false => rfl
    | true =>
      obtain ⟨k, hk, hq⟩ := fl_any_iff.mp ha
      rw [fl_any_iff.mpr ⟨k, hk, (Bool.and_eq_true_iff.mp hq).1⟩] at e
      cases e
