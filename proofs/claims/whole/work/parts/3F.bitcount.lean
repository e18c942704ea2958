/-! THE NUMBER OF BITS: longs -/
theorem fl_k3 {c0 c1 c2 c3 c4 c5 c6 c7 : Nat} (h0 : c0 % 16 ≤ 4 ∧ c0 / 16 ≤ 4) (h1 : c1 % 16 ≤ 4 ∧ c1 / 16 ≤ 4) (h2 : c2 % 16 ≤ 4 ∧ c2 / 16 ≤ 4) (h3 : c3 % 16 ≤ 4 ∧ c3 / 16 ≤ 4) (h4 : c4 % 16 ≤ 4 ∧ c4 / 16 ≤ 4) (h5 : c5 % 16 ≤ 4 ∧ c5 / 16 ≤ 4) (h6 : c6 % 16 ≤ 4 ∧ c6 / 16 ≤ 4) (h7 : c7 % 16 ≤ 4 ∧ c7 / 16 ≤ 4) : (fl_by [c0, c1, c2, c3, c4, c5, c6, c7] + fl_by [c0, c1, c2, c3, c4, c5, c6, c7] / 16) &&& 1085102592571150095 = fl_by [(c0 + c0 / 16) % 16, (c1 + c1 / 16) % 16, (c2 + c2 / 16) % 16, (c3 + c3 / 16) % 16, (c4 + c4 / 16) % 16, (c5 + c5 / 16) % 16, (c6 + c6 / 16) % 16, (c7 + c7 / 16) % 16] := by
  have e : fl_by [c0, c1, c2, c3, c4, c5, c6, c7] + fl_by [c0, c1, c2, c3, c4, c5, c6, c7] / 16 = fl_by [c0 + c0 / 16 + 16 * (c1 % 16), c1 + c1 / 16 + 16 * (c2 % 16), c2 + c2 / 16 + 16 * (c3 % 16), c3 + c3 / 16 + 16 * (c4 % 16), c4 + c4 / 16 + 16 * (c5 % 16), c5 + c5 / 16 + 16 * (c6 % 16), c6 + c6 / 16 + 16 * (c7 % 16), c7 + c7 / 16] := by
    simp only [fl_by]
    omega
  have m : fl_by [15, 15, 15, 15, 15, 15, 15, 15] = 1085102592571150095 := rfl
  have q : ∀ d : Nat, d &&& 15 = d % 16 := fun d => Nat.and_two_pow_sub_one_eq_mod d 4
  rw [e, ← m, fl_by_m [c0 + c0 / 16 + 16 * (c1 % 16), c1 + c1 / 16 + 16 * (c2 % 16), c2 + c2 / 16 + 16 * (c3 % 16), c3 + c3 / 16 + 16 * (c4 % 16), c4 + c4 / 16 + 16 * (c5 % 16), c5 + c5 / 16 + 16 * (c6 % 16), c6 + c6 / 16 + 16 * (c7 % 16), c7 + c7 / 16] (by
    intro b hb
    simp only [List.mem_cons, List.not_mem_nil, or_false] at hb
    rcases hb with h | h | h | h | h | h | h | h <;> subst h <;> omega) [15, 15, 15, 15, 15, 15, 15, 15] (by
    intro b hb
    simp only [List.mem_cons, List.not_mem_nil, or_false] at hb
    rcases hb with h | h | h | h | h | h | h | h <;> subst h <;> omega) rfl]
  simp only [List.zipWith, q]
  simp only [fl_by]
  omega
theorem fl_k4 {p0 p1 p2 p3 p4 p5 p6 p7 : Nat} (h0 : p0 ≤ 8) (h1 : p1 ≤ 8) (h2 : p2 ≤ 8) (h3 : p3 ≤ 8) (h4 : p4 ≤ 8) (h5 : p5 ≤ 8) (h6 : p6 ≤ 8) (h7 : p7 ≤ 8) : ((fl_by [p0, p1, p2, p3, p4, p5, p6, p7] + fl_by [p0, p1, p2, p3, p4, p5, p6, p7] / 256 + (fl_by [p0, p1, p2, p3, p4, p5, p6, p7] + fl_by [p0, p1, p2, p3, p4, p5, p6, p7] / 256) / 65536) + (fl_by [p0, p1, p2, p3, p4, p5, p6, p7] + fl_by [p0, p1, p2, p3, p4, p5, p6, p7] / 256 + (fl_by [p0, p1, p2, p3, p4, p5, p6, p7] + fl_by [p0, p1, p2, p3, p4, p5, p6, p7] / 256) / 65536) / 4294967296) % 128 = p0 + p1 + p2 + p3 + p4 + p5 + p6 + p7 := by
  have d1 : fl_by [p0, p1, p2, p3, p4, p5, p6, p7] / 256 = fl_by [p1, p2, p3, p4, p5, p6, p7] := by
    rw [show fl_by [p0, p1, p2, p3, p4, p5, p6, p7] = fl_by [p0] + 256 * fl_by [p1, p2, p3, p4, p5, p6, p7] from by simp only [fl_by]; omega, Nat.add_mul_div_left _ _ (by omega), Nat.div_eq_of_lt (by simp only [fl_by]; omega), Nat.zero_add]
  have d2 : fl_by [p0 + p1, p1 + p2, p2 + p3, p3 + p4, p4 + p5, p5 + p6, p6 + p7, p7] / 65536 = fl_by [p2 + p3, p3 + p4, p4 + p5, p5 + p6, p6 + p7, p7] := by
    rw [show fl_by [p0 + p1, p1 + p2, p2 + p3, p3 + p4, p4 + p5, p5 + p6, p6 + p7, p7] = fl_by [p0 + p1, p1 + p2] + 65536 * fl_by [p2 + p3, p3 + p4, p4 + p5, p5 + p6, p6 + p7, p7] from by simp only [fl_by]; omega, Nat.add_mul_div_left _ _ (by omega), Nat.div_eq_of_lt (by simp only [fl_by]; omega), Nat.zero_add]
  have d3 : fl_by [p0 + p1 + (p2 + p3), p1 + p2 + (p3 + p4), p2 + p3 + (p4 + p5), p3 + p4 + (p5 + p6), p4 + p5 + (p6 + p7), p5 + p6 + p7, p6 + p7, p7] / 4294967296 = fl_by [p4 + p5 + (p6 + p7), p5 + p6 + p7, p6 + p7, p7] := by
    rw [show fl_by [p0 + p1 + (p2 + p3), p1 + p2 + (p3 + p4), p2 + p3 + (p4 + p5), p3 + p4 + (p5 + p6), p4 + p5 + (p6 + p7), p5 + p6 + p7, p6 + p7, p7] = fl_by [p0 + p1 + (p2 + p3), p1 + p2 + (p3 + p4), p2 + p3 + (p4 + p5), p3 + p4 + (p5 + p6)] + 4294967296 * fl_by [p4 + p5 + (p6 + p7), p5 + p6 + p7, p6 + p7, p7] from by simp only [fl_by]; omega, Nat.add_mul_div_left _ _ (by omega), Nat.div_eq_of_lt (by simp only [fl_by]; omega), Nat.zero_add]
  have e1 : fl_by [p0, p1, p2, p3, p4, p5, p6, p7] + fl_by [p1, p2, p3, p4, p5, p6, p7] = fl_by [p0 + p1, p1 + p2, p2 + p3, p3 + p4, p4 + p5, p5 + p6, p6 + p7, p7] := by simp only [fl_by]; omega
  have e2 : fl_by [p0 + p1, p1 + p2, p2 + p3, p3 + p4, p4 + p5, p5 + p6, p6 + p7, p7] + fl_by [p2 + p3, p3 + p4, p4 + p5, p5 + p6, p6 + p7, p7] = fl_by [p0 + p1 + (p2 + p3), p1 + p2 + (p3 + p4), p2 + p3 + (p4 + p5), p3 + p4 + (p5 + p6), p4 + p5 + (p6 + p7), p5 + p6 + p7, p6 + p7, p7] := by simp only [fl_by]; omega
  rw [d1, e1, d2, e2, d3]
  simp only [fl_by]
  omega
theorem fl_popn {n : Nat} (hn : n < 2 ^ 64) : ∃ i1 i2 i3 : Nat, n / 2 &&& 6148914691236517205 ≤ n ∧ i1 = n - (n / 2 &&& 6148914691236517205) ∧ i2 = (i1 &&& 3689348814741910323) + (i1 / 4 &&& 3689348814741910323) ∧ i2 < 2 ^ 63 ∧ i3 = (i2 + i2 / 16) &&& 1085102592571150095 ∧ i3 < 2 ^ 60 ∧
    ((i3 + i3 / 256 + (i3 + i3 / 256) / 65536) + (i3 + i3 / 256 + (i3 + i3 / 256) / 65536) / 4294967296) % 128 = fl_cnt (fun i => n.testBit i) 64 := by
  obtain ⟨b0, b1, b2, b3, b4, b5, b6, b7, e, h⟩ : ∃ b0 b1 b2 b3 b4 b5 b6 b7, n = fl_by [b0, b1, b2, b3, b4, b5, b6, b7] ∧ ∀ b, b ∈ [b0, b1, b2, b3, b4, b5, b6, b7] → b < 256 := by
    refine ⟨_, _, _, _, _, _, _, _, fl_by8 hn, ?_⟩
    intro b hb
    simp only [List.mem_cons, List.not_mem_nil, or_false] at hb
    rcases hb with h | h | h | h | h | h | h | h <;> subst h <;> exact Nat.mod_lt _ (by omega)
  have m1 := fl_by_1 _ h
  have hb1 : ∀ b, b ∈ [b0, b1, b2, b3, b4, b5, b6, b7].map fl_b1 → b < 256 := by
    intro b hb
    obtain ⟨a, ha, rfl⟩ := List.mem_map.mp hb
    exact (fl_b2_b a (h a ha)).2.2.2
  have m2 := fl_by_2 _ hb1
  have cn := fl_by_cnt _ h
  rw [← e] at cn m1
  have M5 : fl_by (List.map (fun _ => 85) [b0, b1, b2, b3, b4, b5, b6, b7]) = 6148914691236517205 := by
    simp only [List.map_cons, List.map_nil]
    rfl
  have M3 : fl_by (List.map (fun _ => 51) ([b0, b1, b2, b3, b4, b5, b6, b7].map fl_b1)) = 3689348814741910323 := by
    simp only [List.map_cons, List.map_nil]
    rfl
  rw [M5] at m1
  rw [M3] at m2
  have c0 := fl_b2_b b0 (h b0 (by simp))
  have c1 := fl_b2_b b1 (h b1 (by simp))
  have c2 := fl_b2_b b2 (h b2 (by simp))
  have c3 := fl_b2_b b3 (h b3 (by simp))
  have c4 := fl_b2_b b4 (h b4 (by simp))
  have c5 := fl_b2_b b5 (h b5 (by simp))
  have c6 := fl_b2_b b6 (h b6 (by simp))
  have c7 := fl_b2_b b7 (h b7 (by simp))
  have k3 := fl_k3 (c0 := fl_b2 (fl_b1 b0)) (c1 := fl_b2 (fl_b1 b1)) (c2 := fl_b2 (fl_b1 b2)) (c3 := fl_b2 (fl_b1 b3)) (c4 := fl_b2 (fl_b1 b4)) (c5 := fl_b2 (fl_b1 b5)) (c6 := fl_b2 (fl_b1 b6)) (c7 := fl_b2 (fl_b1 b7)) ⟨c0.1, c0.2.1⟩ ⟨c1.1, c1.2.1⟩ ⟨c2.1, c2.2.1⟩ ⟨c3.1, c3.2.1⟩ ⟨c4.1, c4.2.1⟩ ⟨c5.1, c5.2.1⟩ ⟨c6.1, c6.2.1⟩ ⟨c7.1, c7.2.1⟩
  rw [fl_b3 b0 (h b0 (by simp)), fl_b3 b1 (h b1 (by simp)), fl_b3 b2 (h b2 (by simp)), fl_b3 b3 (h b3 (by simp)), fl_b3 b4 (h b4 (by simp)), fl_b3 b5 (h b5 (by simp)), fl_b3 b6 (h b6 (by simp)), fl_b3 b7 (h b7 (by simp))] at k3
  have q0 := fl_cnt_le (q := fun i => b0.testBit i) 8
  have q1 := fl_cnt_le (q := fun i => b1.testBit i) 8
  have q2 := fl_cnt_le (q := fun i => b2.testBit i) 8
  have q3 := fl_cnt_le (q := fun i => b3.testBit i) 8
  have q4 := fl_cnt_le (q := fun i => b4.testBit i) 8
  have q5 := fl_cnt_le (q := fun i => b5.testBit i) 8
  have q6 := fl_cnt_le (q := fun i => b6.testBit i) 8
  have q7 := fl_cnt_le (q := fun i => b7.testBit i) 8
  have k4 := fl_k4 q0 q1 q2 q3 q4 q5 q6 q7
  simp only [List.map_cons, List.map_nil, List.sum_cons, List.sum_nil, List.length_cons, List.length_nil] at cn m2 m1
  refine ⟨_, _, _, m1.1, rfl, rfl, ?_, rfl, ?_, ?_⟩
  · rw [m1.2, m2]
    simp only [fl_by]
    omega
  · rw [m1.2, m2, k3]
    simp only [fl_by]
    omega
  · rw [m1.2, m2, k3, k4]
    have cn' : fl_cnt (fun i => n.testBit i) 64 = _ := cn
    rw [cn']
    omega
/-- a long as a natural number -/
def fl_nt (y : Int64) : Nat := y.toBitVec.toNat
theorem fl_nt_lt (y : Int64) : fl_nt y < 2 ^ 64 := y.toBitVec.isLt
theorem fl_nt_and (x y : Int64) : fl_nt (x &&& y) = fl_nt x &&& fl_nt y := by
  unfold fl_nt; rw [Int64.toBitVec_and, BitVec.toNat_and]
theorem fl_nt_add {x y : Int64} (h : fl_nt x + fl_nt y < 2 ^ 64) : fl_nt (x + y) = fl_nt x + fl_nt y := by
  unfold fl_nt at h ⊢; rw [Int64.toBitVec_add, BitVec.toNat_add]; omega
theorem fl_nt_sub {x y : Int64} (h : fl_nt y ≤ fl_nt x) : fl_nt (x - y) = fl_nt x - fl_nt y := by
  have hx := fl_nt_lt x
  unfold fl_nt at h hx ⊢; rw [Int64.toBitVec_sub, BitVec.toNat_sub]; omega
theorem fl_nt_shr {f : Nat} (hf : f < 64) (x : Int64) : fl_nt ((Int64.toUInt64 x >>> ((Int32.toInt64 (Int32.ofNat f)).toUInt64 &&& Int64.toUInt64 63)).toInt64) = fl_nt x / 2 ^ f := by
  unfold fl_nt
  rw [UInt64.toBitVec_toInt64, UInt64.toBitVec_shiftRight, fl_amtu f hf, BitVec.ushiftRight_eq', fl_toN64 hf, BitVec.toNat_ushiftRight, Nat.shiftRight_eq_div_pow]
  rfl
theorem fl_hb_nt (x : Int64) (c : Nat) : fl_hb x c = (fl_nt x).testBit c := rfl
theorem fl_toI32 {y : Int64} : (y.toInt32 &&& 127) = Int32.ofNat (fl_nt y % 128) := by
  apply Int32.toBitVec_inj.mp
  apply BitVec.eq_of_toNat_eq
  rw [Int32.toBitVec_and, Int64.toBitVec_toInt32, BitVec.toNat_and, Int32.toBitVec_ofNat', BitVec.toNat_ofNat]
  have e : (BitVec.signExtend 32 y.toBitVec).toNat = fl_nt y % 2 ^ 32 := by
    rw [BitVec.signExtend_eq_setWidth_of_le _ (by omega), BitVec.toNat_setWidth]
    rfl
  rw [e, show (127 : Int32).toBitVec.toNat = 2 ^ 7 - 1 from rfl, Nat.and_two_pow_sub_one_eq_mod]
  omega
theorem fc_126 {h : fl_H} (x : Int64) : fl_cl fl_C 126 [.long x] h = some (some (some (.int (Int32.ofNat (fl_cnt (fl_hb x) 64)))), h) := by
  obtain ⟨i1, i2, i3, l1, e1, e2, l2, e3, l3, e⟩ := fl_popn (fl_nt_lt x)
  have s1 : fl_nt (x - (((Int64.toUInt64 x >>> ((Int32.toInt64 1).toUInt64 &&& Int64.toUInt64 63)).toInt64) &&& 6148914691236517205)) = i1 := by
    have a : fl_nt (((Int64.toUInt64 x >>> ((Int32.toInt64 1).toUInt64 &&& Int64.toUInt64 63)).toInt64) &&& 6148914691236517205) = fl_nt x / 2 &&& 6148914691236517205 := by
      rw [fl_nt_and, show (1 : Int32) = Int32.ofNat 1 from rfl, fl_nt_shr (by omega)]
      rfl
    rw [fl_nt_sub (by rw [a]; exact l1), a, e1]
  rw [fbE_126]
  generalize hA : x - (((Int64.toUInt64 x >>> ((Int32.toInt64 1).toUInt64 &&& Int64.toUInt64 63)).toInt64) &&& 6148914691236517205) = A at s1 ⊢
  have s2 : fl_nt ((A &&& 3689348814741910323) + (((Int64.toUInt64 A >>> ((Int32.toInt64 2).toUInt64 &&& Int64.toUInt64 63)).toInt64) &&& 3689348814741910323)) = i2 := by
    have a : fl_nt (((Int64.toUInt64 A >>> ((Int32.toInt64 2).toUInt64 &&& Int64.toUInt64 63)).toInt64) &&& 3689348814741910323) = i1 / 4 &&& 3689348814741910323 := by
      rw [fl_nt_and, show (2 : Int32) = Int32.ofNat 2 from rfl, fl_nt_shr (by omega), s1]
      rfl
    have b : fl_nt (A &&& 3689348814741910323) = i1 &&& 3689348814741910323 := by
      rw [fl_nt_and, s1]
      rfl
    rw [fl_nt_add (by rw [a, b]; omega), a, b, e2]
  generalize hB : (A &&& 3689348814741910323) + (((Int64.toUInt64 A >>> ((Int32.toInt64 2).toUInt64 &&& Int64.toUInt64 63)).toInt64) &&& 3689348814741910323) = B at s2 ⊢
  have s3 : fl_nt ((B + ((Int64.toUInt64 B >>> ((Int32.toInt64 4).toUInt64 &&& Int64.toUInt64 63)).toInt64)) &&& 1085102592571150095) = i3 := by
    have a : fl_nt ((Int64.toUInt64 B >>> ((Int32.toInt64 4).toUInt64 &&& Int64.toUInt64 63)).toInt64) = i2 / 16 := by
      rw [show (4 : Int32) = Int32.ofNat 4 from rfl, fl_nt_shr (by omega), s2]
    rw [fl_nt_and, fl_nt_add (by rw [a, s2]; omega), a, s2, e3]
    rfl
  generalize hD : (B + ((Int64.toUInt64 B >>> ((Int32.toInt64 4).toUInt64 &&& Int64.toUInt64 63)).toInt64)) &&& 1085102592571150095 = D at s3 ⊢
  have s4 : fl_nt (D + ((Int64.toUInt64 D >>> ((Int32.toInt64 8).toUInt64 &&& Int64.toUInt64 63)).toInt64)) = i3 + i3 / 256 := by
    have a : fl_nt ((Int64.toUInt64 D >>> ((Int32.toInt64 8).toUInt64 &&& Int64.toUInt64 63)).toInt64) = i3 / 256 := by
      rw [show (8 : Int32) = Int32.ofNat 8 from rfl, fl_nt_shr (by omega), s3]
    rw [fl_nt_add (by rw [a, s3]; omega), a, s3]
  generalize hE : D + ((Int64.toUInt64 D >>> ((Int32.toInt64 8).toUInt64 &&& Int64.toUInt64 63)).toInt64) = E at s4 ⊢
  have s5 : fl_nt (E + ((Int64.toUInt64 E >>> ((Int32.toInt64 16).toUInt64 &&& Int64.toUInt64 63)).toInt64)) = i3 + i3 / 256 + (i3 + i3 / 256) / 65536 := by
    have a : fl_nt ((Int64.toUInt64 E >>> ((Int32.toInt64 16).toUInt64 &&& Int64.toUInt64 63)).toInt64) = (i3 + i3 / 256) / 65536 := by
      rw [show (16 : Int32) = Int32.ofNat 16 from rfl, fl_nt_shr (by omega), s4]
    rw [fl_nt_add (by rw [a, s4]; omega), a, s4]
  generalize hG : E + ((Int64.toUInt64 E >>> ((Int32.toInt64 16).toUInt64 &&& Int64.toUInt64 63)).toInt64) = G at s5 ⊢
  have s6 : fl_nt (G + ((Int64.toUInt64 G >>> ((Int32.toInt64 32).toUInt64 &&& Int64.toUInt64 63)).toInt64)) = i3 + i3 / 256 + (i3 + i3 / 256) / 65536 + (i3 + i3 / 256 + (i3 + i3 / 256) / 65536) / 4294967296 := by
    have a : fl_nt ((Int64.toUInt64 G >>> ((Int32.toInt64 32).toUInt64 &&& Int64.toUInt64 63)).toInt64) = (i3 + i3 / 256 + (i3 + i3 / 256) / 65536) / 4294967296 := by
      rw [show (32 : Int32) = Int32.ofNat 32 from rfl, fl_nt_shr (by omega), s5]
    rw [fl_nt_add (by rw [a, s5]; omega), a, s5]
  rw [fl_toI32, s6, e]
  rfl
