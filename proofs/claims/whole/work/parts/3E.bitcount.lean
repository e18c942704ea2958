/-! THE NUMBER OF BITS, as the class has it counted -/
theorem fl_land256 {a b c d : Nat} (ha : a < 256) (hc : c < 256) : (a + 256 * b) &&& (c + 256 * d) = (a &&& c) + 256 * (b &&& d) := by
  have hac : a &&& c < 256 := Nat.lt_of_le_of_lt Nat.and_le_left ha
  apply Nat.eq_of_testBit_eq
  intro i
  rw [Nat.testBit_and, show a + 256 * b = 2 ^ 8 * b + a by omega, show c + 256 * d = 2 ^ 8 * d + c by omega, show (a &&& c) + 256 * (b &&& d) = 2 ^ 8 * (b &&& d) + (a &&& c) by omega, Nat.testBit_two_pow_mul_add _ ha, Nat.testBit_two_pow_mul_add _ hc, Nat.testBit_two_pow_mul_add _ hac]
  by_cases h : i < 8
  · rw [if_pos h, if_pos h, if_pos h, Nat.testBit_and]
  · rw [if_neg h, if_neg h, if_neg h, Nat.testBit_and]
/-- bytes, one behind another -/
def fl_by : List Nat → Nat
  | [] => 0
  | b :: l => b + 256 * fl_by l
def fl_b1 (a : Nat) : Nat := a - (a / 2 &&& 85)
def fl_b2 (a : Nat) : Nat := (a &&& 51) + (a / 4 &&& 51)
theorem fl_b1_a : ∀ t, t < 2 → ∀ a, a < 256 → (a / 2 + 128 * t) &&& 85 = a / 2 &&& 85 := by decide +kernel
theorem fl_b1_b : ∀ a, a < 256 → a / 2 &&& 85 ≤ a := by decide +kernel
theorem fl_b2_a : ∀ t, t < 4 → ∀ a, a < 256 → (a / 4 + 64 * t) &&& 51 = a / 4 &&& 51 := by decide +kernel
theorem fl_b2_b : ∀ a, a < 256 → fl_b2 (fl_b1 a) % 16 ≤ 4 ∧ fl_b2 (fl_b1 a) / 16 ≤ 4 ∧ fl_b2 (fl_b1 a) < 256 ∧ fl_b1 a < 256 := by decide +kernel
theorem fl_by_m : ∀ l : List Nat, (∀ b, b ∈ l → b < 256) → ∀ m : List Nat, (∀ b, b ∈ m → b < 256) → l.length = m.length → fl_by l &&& fl_by m = fl_by (List.zipWith (fun a b => a &&& b) l m)
  | [], _, [], _, _ => rfl
  | [], _, _ :: _, _, h => by cases h
  | _ :: _, _, [], _, h => by cases h
  | a :: l, hl, b :: m, hm, h => by
    have e := fl_by_m l (fun c hc => hl c (List.mem_cons_of_mem _ hc)) m (fun c hc => hm c (List.mem_cons_of_mem _ hc)) (by simpa using h)
    show (a + 256 * fl_by l) &&& (b + 256 * fl_by m) = (a &&& b) + 256 * fl_by (List.zipWith (fun a b => a &&& b) l m)
    rw [fl_land256 (hl a List.mem_cons_self) (hm b List.mem_cons_self), e]
/-- half of it, under the mask -/
theorem fl_by_1 : ∀ l : List Nat, (∀ b, b ∈ l → b < 256) → (fl_by l / 2) &&& fl_by (l.map fun _ => 85) ≤ fl_by l ∧ fl_by l - ((fl_by l / 2) &&& fl_by (l.map fun _ => 85)) = fl_by (l.map fl_b1)
  | [], _ => ⟨Nat.le_refl 0, rfl⟩
  | a :: l, hl => by
    have ha := hl a List.mem_cons_self
    obtain ⟨e1, e2⟩ := fl_by_1 l (fun c hc => hl c (List.mem_cons_of_mem _ hc))
    show ((a + 256 * fl_by l) / 2) &&& (85 + 256 * fl_by (l.map fun _ => 85)) ≤ a + 256 * fl_by l ∧ (a + 256 * fl_by l) - (((a + 256 * fl_by l) / 2) &&& (85 + 256 * fl_by (l.map fun _ => 85))) = fl_b1 a + 256 * fl_by (l.map fl_b1)
    have h2 := fl_b1_b a ha
    rw [show (a + 256 * fl_by l) / 2 = (a / 2 + 128 * (fl_by l % 2)) + 256 * (fl_by l / 2) by omega, fl_land256 (by omega) (by omega), fl_b1_a _ (by omega) a ha, ← e2]
    unfold fl_b1
    omega
theorem fl_by_2 : ∀ l : List Nat, (∀ b, b ∈ l → b < 256) → (fl_by l &&& fl_by (l.map fun _ => 51)) + ((fl_by l / 4) &&& fl_by (l.map fun _ => 51)) = fl_by (l.map fl_b2)
  | [], _ => rfl
  | a :: l, hl => by
    have ha := hl a List.mem_cons_self
    have e2 := fl_by_2 l (fun c hc => hl c (List.mem_cons_of_mem _ hc))
    show ((a + 256 * fl_by l) &&& (51 + 256 * fl_by (l.map fun _ => 51))) + (((a + 256 * fl_by l) / 4) &&& (51 + 256 * fl_by (l.map fun _ => 51))) = fl_b2 a + 256 * fl_by (l.map fl_b2)
    rw [fl_land256 ha (by omega), show (a + 256 * fl_by l) / 4 = (a / 4 + 64 * (fl_by l % 4)) + 256 * (fl_by l / 4) by omega, fl_land256 (by omega) (by omega), fl_b2_a _ (by omega) a ha, ← e2]
    unfold fl_b2
    omega
/-- the number of bits of a byte -/
theorem fl_b3 : ∀ a, a < 256 → (fl_b2 (fl_b1 a) + fl_b2 (fl_b1 a) / 16) % 16 = fl_cnt (fun i => a.testBit i) 8 := by decide +kernel
theorem fl_cnt_add {q : Nat → Bool} {m : Nat} : ∀ n, fl_cnt q (m + n) = fl_cnt q m + fl_cnt (fun i => q (m + i)) n
  | 0 => rfl
  | n + 1 => by
    show fl_cnt q (m + n) + (q (m + n)).toNat = _
    rw [fl_cnt_add n, fl_cnt, Nat.add_assoc]
theorem fl_by_cnt : ∀ l : List Nat, (∀ b, b ∈ l → b < 256) → fl_cnt (fun i => (fl_by l).testBit i) (8 * l.length) = (l.map fun a => fl_cnt (fun i => a.testBit i) 8).sum
  | [], _ => rfl
  | a :: l, hl => by
    have ha := hl a List.mem_cons_self
    have e := fl_by_cnt l (fun c hc => hl c (List.mem_cons_of_mem _ hc))
    rw [List.length_cons, show 8 * (l.length + 1) = 8 + 8 * l.length by omega, fl_cnt_add, List.map_cons, List.sum_cons, ← e]
    congr 1
    · refine fl_cnt_congr fun i hi => ?_
      show (a + 256 * fl_by l).testBit i = _
      rw [show a + 256 * fl_by l = 2 ^ 8 * fl_by l + a by omega, Nat.testBit_two_pow_mul_add _ ha, if_pos hi]
    · refine fl_cnt_congr fun i hi => ?_
      show (a + 256 * fl_by l).testBit (8 + i) = _
      rw [show a + 256 * fl_by l = 2 ^ 8 * fl_by l + a by omega, Nat.testBit_two_pow_mul_add _ ha, if_neg (by omega), Nat.add_sub_cancel_left]
/-- the eight bytes of a number -/
theorem fl_by8 {n : Nat} (hn : n < 2 ^ 64) : n = fl_by [n % 256, n / 256 % 256, n / 65536 % 256, n / 16777216 % 256, n / 4294967296 % 256, n / 1099511627776 % 256, n / 281474976710656 % 256, n / 72057594037927936 % 256] := by
  simp only [fl_by]
  omega
