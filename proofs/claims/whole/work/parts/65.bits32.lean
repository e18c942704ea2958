/-! BITS of ints, counted; of an int as a long -/
theorem fl_amt3 : ∀ f, f < 32 → (Int32.ofNat f &&& Int32.ofNat 31).toBitVec.smod 32 = BitVec.ofNat 32 f := by decide +kernel
theorem fl_hi_1 : ∀ c, c < 32 → fl_hi (Int32.ofNat 1) c = decide (c = 0) := by decide +kernel
theorem fl_hi_m1 : ∀ c, c < 32 → fl_hi (-Int32.ofNat 1) c = true := by decide +kernel
theorem fl_hi_sar {f : Nat} (hf : f < 32) (x : Int32) : ((x >>> (Int32.ofNat f &&& Int32.ofNat 31)) &&& Int32.ofNat 1) = if fl_hi x f = true then Int32.ofNat 1 else Int32.ofNat 0 := by
  apply fl_hi_ext
  intro c hc
  rw [fl_hi_and, fl_hi_1 c hc]
  have e : fl_hi (x >>> (Int32.ofNat f &&& Int32.ofNat 31)) 0 = fl_hi x f := by
    unfold fl_hi
    rw [Int32.toBitVec_shiftRight, fl_amt3 f hf]
    show (x.toBitVec.sshiftRight (BitVec.ofNat 32 f).toNat).getLsbD 0 = _
    rw [show (BitVec.ofNat 32 f).toNat = f by rw [BitVec.toNat_ofNat]; omega, BitVec.getLsbD_sshiftRight]
    simp [hf]
  by_cases h0 : c = 0
  · subst h0
    rw [e]
    cases fl_hi x f
    · rw [Bool.false_and, if_neg (by decide)]; exact (fl_hi_0 0 hc).symm
    · rw [if_pos rfl, fl_hi_1 0 hc]; rfl
  · rw [decide_eq_false h0, Bool.and_false]
    cases fl_hi x f
    · exact (fl_hi_0 c hc).symm
    · exact ((fl_hi_1 c hc).trans (decide_eq_false h0)).symm
theorem fl_hb_i64 (x : Int32) {i : Nat} (hi : i < 64) : fl_hb (Int32.toInt64 x) i = if i < 32 then fl_hi x i else fl_hi x 31 := by
  unfold fl_hb fl_hi
  rw [Int32.toBitVec_toInt64, BitVec.getLsbD_signExtend, decide_eq_true hi, Bool.true_and, BitVec.msb_eq_getLsbD_last]
theorem fl_cnt_ext {q : Nat → Bool} {a : Nat} : ∀ b, (∀ i, a ≤ i → i < a + b → q i = false) → fl_cnt q (a + b) = fl_cnt q a
  | 0, _ => rfl
  | b + 1, h => by
    rw [show a + (b + 1) = (a + b) + 1 from rfl, fl_cnt, fl_cnt_ext b (fun i h1 h2 => h i h1 (by omega)), h (a + b) (by omega) (by omega)]
    rfl
theorem fl_cnt_i64 {x : Int32} (h : fl_hi x 31 = false) : fl_cnt (fl_hb (Int32.toInt64 x)) 64 = fl_cnt (fl_hi x) 32 := by
  rw [show 64 = 32 + 32 from rfl, fl_cnt_ext 32 (fun i h1 h2 => by rw [fl_hb_i64 x (by omega), if_neg (by omega)]; exact h)]
  exact fl_cnt_congr (fun i hi => by rw [fl_hb_i64 x (by omega), if_pos hi])
def fl_y3 (y : Int32) : Nat := y.toBitVec.toNat
theorem fl_y3_lt (y : Int32) : fl_y3 y < 2 ^ 32 := y.toBitVec.isLt
theorem fl_y3_and (x y : Int32) : fl_y3 (x &&& y) = fl_y3 x &&& fl_y3 y := by
  unfold fl_y3; rw [Int32.toBitVec_and, BitVec.toNat_and]
theorem fl_y3_add {x y : Int32} (h : fl_y3 x + fl_y3 y < 2 ^ 32) : fl_y3 (x + y) = fl_y3 x + fl_y3 y := by
  unfold fl_y3 at *; rw [Int32.toBitVec_add, BitVec.toNat_add, Nat.mod_eq_of_lt h]
theorem fl_y3_sub {x y : Int32} (h : fl_y3 y ≤ fl_y3 x) : fl_y3 (x - y) = fl_y3 x - fl_y3 y := by
  have hx := fl_y3_lt x
  have hy := fl_y3_lt y
  unfold fl_y3 at *
  rw [Int32.toBitVec_sub, BitVec.toNat_sub]
  omega
theorem fl_amt3u : ∀ f, f < 32 → (Int32.toUInt32 (Int32.ofNat f) &&& Int32.toUInt32 (Int32.ofNat 31)).toNat = f := by decide +kernel
theorem fl_y3_shr {f : Nat} (hf : f < 32) (x : Int32) : fl_y3 ((Int32.toUInt32 x >>> (Int32.toUInt32 (Int32.ofNat f) &&& Int32.toUInt32 (Int32.ofNat 31))).toInt32) = fl_y3 x / 2 ^ f := by
  show (Int32.toUInt32 x >>> (Int32.toUInt32 (Int32.ofNat f) &&& Int32.toUInt32 (Int32.ofNat 31))).toNat = (Int32.toUInt32 x).toNat / 2 ^ f
  rw [UInt32.toNat_shiftRight, fl_amt3u f hf, Nat.mod_eq_of_lt hf, Nat.shiftRight_eq_div_pow]
theorem fl_andm {a M : Nat} (ha : a < 2 ^ 32) : a &&& M = a &&& (M % 2 ^ 32) := by
  apply Nat.eq_of_testBit_eq
  intro i
  rw [Nat.testBit_and, Nat.testBit_and, Nat.testBit_mod_two_pow]
  by_cases h : i < 32
  · rw [decide_eq_true h, Bool.true_and]
  · rw [Nat.testBit_lt_two_pow (Nat.lt_of_lt_of_le ha (Nat.pow_le_pow_right (by decide) (by omega))), Bool.false_and, Bool.false_and]
theorem fl_pop3 {n : Nat} (hn : n < 2 ^ 32) : ∃ i1 i2 i3 : Nat, n / 2 &&& 1431655765 ≤ n ∧ i1 = n - (n / 2 &&& 1431655765) ∧ i2 = (i1 &&& 858993459) + (i1 / 4 &&& 858993459) ∧ i2 < 2 ^ 31 ∧ i3 = (i2 + i2 / 16) &&& 252645135 ∧ i3 < 2 ^ 28 ∧ (i3 + i3 / 256 + (i3 + i3 / 256) / 65536) % 64 = fl_cnt (fun i => n.testBit i) 32 := by
  obtain ⟨i1, i2, i3, l1, e1, e2, l2, e3, l3, e⟩ := fl_popn (show n < 2 ^ 64 by omega)
  rw [fl_andm (show n / 2 < 2 ^ 32 by omega), show 6148914691236517205 % 2 ^ 32 = 1431655765 from by decide] at l1 e1
  have b1 : i1 < 2 ^ 32 := by omega
  rw [fl_andm b1, fl_andm (show i1 / 4 < 2 ^ 32 by omega), show 3689348814741910323 % 2 ^ 32 = 858993459 from by decide] at e2
  have c1 := Nat.and_le_right (n := i1) (m := 858993459)
  have c2 := Nat.and_le_right (n := i1 / 4) (m := 858993459)
  have b2 : i2 < 2 ^ 31 := by omega
  rw [fl_andm (show i2 + i2 / 16 < 2 ^ 32 by omega), show 1085102592571150095 % 2 ^ 32 = 252645135 from by decide] at e3
  have c3 := Nat.and_le_right (n := i2 + i2 / 16) (m := 252645135)
  have b3 : i3 < 2 ^ 28 := by omega
  have ce : fl_cnt (fun i => n.testBit i) 64 = fl_cnt (fun i => n.testBit i) 32 := fl_cnt_ext (a := 32) 32 (fun i h1 _ => Nat.testBit_lt_two_pow (Nat.lt_of_lt_of_le hn (Nat.pow_le_pow_right (by decide) h1)))
  have cl := fl_cnt_le (q := fun i => n.testBit i) 32
  have f1 : i3 / 256 < 1048576 := by omega
  have f2 : (i3 + i3 / 256) / 65536 < 8192 := by omega
  have f3 : (i3 + i3 / 256 + (i3 + i3 / 256) / 65536) / 4294967296 = 0 := Nat.div_eq_of_lt (by omega)
  rw [ce, f3, Nat.add_zero] at e
  exact ⟨i1, i2, i3, l1, e1, e2, b2, e3, b3, by omega⟩
theorem fl_and63 {y : Int32} : (y &&& 63) = Int32.ofNat (fl_y3 y % 64) := by
  apply Int32.toBitVec_inj.mp
  apply BitVec.eq_of_toNat_eq
  have l := fl_y3_lt y
  rw [Int32.toBitVec_and, BitVec.toNat_and, Int32.toBitVec_ofNat', BitVec.toNat_ofNat]
  show fl_y3 y &&& (63 : Int32).toBitVec.toNat = _
  rw [show (63 : Int32).toBitVec.toNat = 2 ^ 6 - 1 from rfl, Nat.and_two_pow_sub_one_eq_mod]
  omega
theorem fc_190 {h : fl_H} (x : Int32) : fl_cl fl_C 190 [.int x] h = some (some (some (.int (Int32.ofNat (fl_cnt (fl_hi x) 32)))), h) := by
  obtain ⟨i1, i2, i3, l1, e1, e2, l2, e3, l3, e⟩ := fl_pop3 (fl_y3_lt x)
  have sh : ∀ (f : Nat), f < 32 → ∀ y : Int32, fl_y3 ((Int32.toUInt32 y >>> (Int32.toUInt32 (Int32.ofNat f) &&& Int32.toUInt32 31)).toInt32) = fl_y3 y / 2 ^ f := fun f hf y => fl_y3_shr hf y
  have s1 : fl_y3 (x - (((Int32.toUInt32 x >>> (Int32.toUInt32 1 &&& Int32.toUInt32 31)).toInt32) &&& 1431655765)) = i1 := by
    have a : fl_y3 (((Int32.toUInt32 x >>> (Int32.toUInt32 1 &&& Int32.toUInt32 31)).toInt32) &&& 1431655765) = fl_y3 x / 2 &&& 1431655765 := by
      rw [fl_y3_and, show (1 : Int32) = Int32.ofNat 1 from rfl, sh 1 (by omega)]
      rfl
    rw [fl_y3_sub (by rw [a]; exact l1), a, e1]
  rw [fbE_190]
  generalize hA : x - (((Int32.toUInt32 x >>> (Int32.toUInt32 1 &&& Int32.toUInt32 31)).toInt32) &&& 1431655765) = A at s1 ⊢
  have s2 : fl_y3 ((A &&& 858993459) + (((Int32.toUInt32 A >>> (Int32.toUInt32 2 &&& Int32.toUInt32 31)).toInt32) &&& 858993459)) = i2 := by
    have a : fl_y3 (((Int32.toUInt32 A >>> (Int32.toUInt32 2 &&& Int32.toUInt32 31)).toInt32) &&& 858993459) = i1 / 4 &&& 858993459 := by
      rw [fl_y3_and, show (2 : Int32) = Int32.ofNat 2 from rfl, sh 2 (by omega), s1]
      rfl
    have b : fl_y3 (A &&& 858993459) = i1 &&& 858993459 := by
      rw [fl_y3_and, s1]
      rfl
    rw [fl_y3_add (by rw [a, b]; omega), a, b, e2]
  generalize hB : (A &&& 858993459) + (((Int32.toUInt32 A >>> (Int32.toUInt32 2 &&& Int32.toUInt32 31)).toInt32) &&& 858993459) = B at s2 ⊢
  have s3 : fl_y3 ((B + ((Int32.toUInt32 B >>> (Int32.toUInt32 4 &&& Int32.toUInt32 31)).toInt32)) &&& 252645135) = i3 := by
    have a : fl_y3 ((Int32.toUInt32 B >>> (Int32.toUInt32 4 &&& Int32.toUInt32 31)).toInt32) = i2 / 16 := by
      rw [show (4 : Int32) = Int32.ofNat 4 from rfl, sh 4 (by omega), s2]
    rw [fl_y3_and, fl_y3_add (by rw [a, s2]; omega), a, s2, e3]
    rfl
  generalize hD : (B + ((Int32.toUInt32 B >>> (Int32.toUInt32 4 &&& Int32.toUInt32 31)).toInt32)) &&& 252645135 = D at s3 ⊢
  have s4 : fl_y3 (D + ((Int32.toUInt32 D >>> (Int32.toUInt32 8 &&& Int32.toUInt32 31)).toInt32)) = i3 + i3 / 256 := by
    have a : fl_y3 ((Int32.toUInt32 D >>> (Int32.toUInt32 8 &&& Int32.toUInt32 31)).toInt32) = i3 / 256 := by
      rw [show (8 : Int32) = Int32.ofNat 8 from rfl, sh 8 (by omega), s3]
    rw [fl_y3_add (by rw [a, s3]; omega), a, s3]
  generalize hE : D + ((Int32.toUInt32 D >>> (Int32.toUInt32 8 &&& Int32.toUInt32 31)).toInt32) = E at s4 ⊢
  have s5 : fl_y3 (E + ((Int32.toUInt32 E >>> (Int32.toUInt32 16 &&& Int32.toUInt32 31)).toInt32)) = i3 + i3 / 256 + (i3 + i3 / 256) / 65536 := by
    have a : fl_y3 ((Int32.toUInt32 E >>> (Int32.toUInt32 16 &&& Int32.toUInt32 31)).toInt32) = (i3 + i3 / 256) / 65536 := by
      rw [show (16 : Int32) = Int32.ofNat 16 from rfl, sh 16 (by omega), s4]
    rw [fl_y3_add (by rw [a, s4]; omega), a, s4]
  rw [fl_and63, s5, e]
  rfl
