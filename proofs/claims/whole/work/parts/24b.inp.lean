/-! A PATTERN's digits -/
theorem fl_inp : ∀ pt, pt < 256 → ∀ k, k < 4 → (Int32.ofNat pt >>> (Int32.ofNat (2 * k) &&& Int32.ofNat 31)) &&& Int32.ofNat 3 = Int32.ofNat (pt / 4 ^ k % 4) := by decide +kernel
