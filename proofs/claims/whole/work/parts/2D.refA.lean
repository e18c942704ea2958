/-! THE REFERENCE: the run of a fault, whole -/
def fl_sha (g : Nat → Nat) (f : Nat) (ps : Nat → Nat) (t : Nat) : Int32 := fl_bi (fl_sq g (fl_vl g 64 ps t) (fl_vl g f ps t)) (fun o => g (72 + o)) (g 3)
abbrev fl_rf (y : fl_H) (g : Nat → Nat) (n : Nat) (ps : Nat → Nat) (f : Nat) : Prop := fl_i y 271 f = fl_oi (fl_any (fl_shn g f ps) n) (fl_frst (fl_shn g f ps) n) ∧ fl_i y 272 f = (if fl_any (fl_shn g f ps) n = true then fl_sha g f ps (fl_frst (fl_shn g f ps) n) else Int32.ofNat 0) ∧ fl_i y 273 f = fl_oi (fl_any (fl_dr g f ps) n) (fl_frst (fl_dr g f ps) n) ∧ (0 < n → ∀ k, k < g 0 → fl_i y 274 (12 * f + k) = Int32.ofNat (fl_fvl g f ps n k)) ∧ ∀ k, k < g 0 → fl_i y 275 (12 * f + k) = Int32.ofNat (fl_fhd g f ps n k)
/-- the others' entries stay -/
abbrev fl_oth (h y : fl_H) (f : Nat) : Prop := ∀ f', f' ≠ f → fl_i y 271 f' = fl_i h 271 f' ∧ fl_i y 272 f' = fl_i h 272 f' ∧ fl_i y 273 f' = fl_i h 273 f' ∧ (∀ k, k < 12 → fl_i y 274 (12 * f' + k) = fl_i h 274 (12 * f' + k)) ∧ ∀ k, k < 12 → fl_i y 275 (12 * f' + k) = fl_i h 275 (12 * f' + k)
theorem fl_oth_eq {h x y : fl_H} {f : Nat} (a : fl_oth h x f) (h1 : ∀ j, j ≠ f → fl_i y 271 j = fl_i x 271 j) (h2 : ∀ j, j ≠ f → fl_i y 272 j = fl_i x 272 j) (h3 : ∀ j, j ≠ f → fl_i y 273 j = fl_i x 273 j) (h4 : fl_i y 274 = fl_i x 274) (h5 : fl_i y 275 = fl_i x 275) : fl_oth h y f := by
  intro f' hf
  have := a f' hf
  rw [h1 f' hf, h2 f' hf, h3 f' hf, h4, h5]
  exact this
abbrev fl_SS (b : Nat) : Prop := b = 266 ∨ b = 267 ∨ b = 271 ∨ b = 272 ∨ b = 273 ∨ b = 274 ∨ b = 275
theorem fr_140f {k0 : Nat → Nat × Nat} {h : fl_H} {g : Nat → Nat} (hg : fl_g k0 h) (m : fl_mm h g) (w : fl_wf g) {n : Nat} {ps : Nat → Nat} (l : fl_ls h n ps) (hgd : fl_gd h g n ps) {f : Nat} (hf : f < 64) {x : fl_H} (fx : fl_fx fl_SS h x) (ot : fl_oth h x f) (e1 : fl_i x 271 f = fl_oi (fl_any (fl_shn g f ps) n) (fl_frst (fl_shn g f ps) n)) (e2 : fl_i x 272 f = (if fl_any (fl_shn g f ps) n = true then fl_sha g f ps (fl_frst (fl_shn g f ps) n) else Int32.ofNat 0)) (e3 : fl_i x 273 f = fl_oi (fl_any (fl_dr g f ps) n) (fl_frst (fl_dr g f ps) n))
    (hv : 0 < n → fl_aw g f ps n = false → ∀ k, k < g 0 → fl_i x 266 k = Int32.ofNat (fl_vl g f ps (n - 1) k)) (hh : fl_any (fl_dr g f ps) n = false → ∀ k, k < g 0 → fl_i x 267 k = Int32.ofNat (fl_hd g f ps n k)) :
    fl_to (fl_Rn fl_C 140 118 [some (.ref 259), some (.int (Int32.ofNat f))] [] x) (fun r y => r = none ∧ fl_fx fl_SS h y ∧ fl_rf y g n ps f ∧ fl_oth h y f) := by
  have w1 : g 0 ≤ 12 := w.1.2.2.2.1
  have lx := fl_ls_fx l fx (by omega) (by omega)
  have gx := fl_gd_fx hgd fx (by omega) (by omega)
  have hgx := fl_g_fx hg fx
  have mx := fl_mm_fx m fx (by omega)
  have fr := fl_frst_le (q := fl_dr g f ps) n
  rw [fr_140a hgx hf lx.1 (by have := lx.1; omega) lx.2.1 e3 (fun z => (fl_frst_sp z).1)]
  have last : ∀ y, fl_fx fl_SS h y → fl_oth h y f → fl_i y 271 = fl_i x 271 → fl_i y 272 = fl_i x 272 → fl_i y 273 = fl_i x 273 → fl_i y 267 = fl_i x 267 → (0 < n → ∀ k, k < g 0 → fl_i y 274 (12 * f + k) = Int32.ofNat (fl_fvl g f ps n k)) → fl_to (fl_Rn fl_C 140 213 [some (.ref 259), some (.int (Int32.ofNat f)), none, some (.int (Int32.ofNat 0))] [] y) (fun r y => r = none ∧ fl_fx fl_SS h y ∧ fl_rf y g n ps f ∧ fl_oth h y f) := by
    intro y fy oy y1 y2 y3 y7 y4
    have gy := fl_gd_fx hgd fy (by omega) (by omega)
    have l1 := lx.1
    rw [fr_140d (fl_g_fx hg fy) (fl_mm_fx m fy (by omega)) w1 hf (d := fl_frst (fl_dr g f ps) n) (b := fl_any (fl_dr g f ps) n) (by omega) (by rw [y3]; exact e3)]
    refine fl_to_mk ⟨rfl, fl_fx_wi fy (by omega), ⟨?_, ?_, ?_, ?_, ?_⟩, ?_⟩
    · rw [fl_i_wi, if_neg (by omega), y1]; exact e1
    · rw [fl_i_wi, if_neg (by omega), y2]; exact e2
    · rw [fl_i_wi, if_neg (by omega), y3]; exact e3
    · intro h0 k hk
      rw [fl_i_wi, if_neg (by omega)]; exact y4 h0 k hk
    · intro k hk
      rw [fl_i_wi, if_pos rfl, fl_seg_in hk]
      unfold fl_fhd
      by_cases c : fl_any (fl_dr g f ps) n = true
      · rw [if_pos c, if_pos c]; exact gy.2 k hk
      · rw [if_neg c, if_neg c, y7]; exact hh (by simpa using c) k hk
    · intro f' hf'
      have := oy f' hf'
      refine ⟨?_, ?_, ?_, ?_, ?_⟩
      · rw [fl_i_wi, if_neg (by omega)]; exact this.1
      · rw [fl_i_wi, if_neg (by omega)]; exact this.2.1
      · rw [fl_i_wi, if_neg (by omega)]; exact this.2.2.1
      · intro k hk; rw [fl_i_wi, if_neg (by omega)]; exact this.2.2.2.1 k hk
      · intro k hk; rw [fl_i_wi, if_pos rfl, fl_seg_out (by omega)]; exact this.2.2.2.2 k hk
  by_cases h0 : 0 < n
  · rw [fr_140b hgx mx w1 hf lx.1 h0 lx.2.1]
    refine last _ (fl_fx_wi fx (by omega)) ?_ (by rw [fl_i_wi, if_neg (by omega)]) (by rw [fl_i_wi, if_neg (by omega)]) (by rw [fl_i_wi, if_neg (by omega)]) (by rw [fl_i_wi, if_neg (by omega)]) ?_
    · intro f' hf'
      have := ot f' hf'
      refine ⟨?_, ?_, ?_, ?_, ?_⟩
      · rw [fl_i_wi, if_neg (by omega)]; exact this.1
      · rw [fl_i_wi, if_neg (by omega)]; exact this.2.1
      · rw [fl_i_wi, if_neg (by omega)]; exact this.2.2.1
      · intro k hk; rw [fl_i_wi, if_pos rfl, fl_seg_out (by omega)]; exact this.2.2.2.1 k hk
      · intro k hk; rw [fl_i_wi, if_neg (by omega)]; exact this.2.2.2.2 k hk
    · intro _ k hk
      rw [fl_i_wi, if_pos rfl, fl_seg_in hk]
      unfold fl_fvl
      by_cases c : fl_aw g f ps n = true
      · rw [if_pos c, if_pos (show (fl_any (fl_dr g f ps) n && decide (fl_frst (fl_dr g f ps) n + 1 < n)) = true from c)]; exact gx.1 (n - 1) (by omega) k hk
      · rw [if_neg c, if_neg (show ¬ (fl_any (fl_dr g f ps) n && decide (fl_frst (fl_dr g f ps) n + 1 < n)) = true from c)]; exact hv h0 (by simpa using c) k hk
  · have n0 : n = 0 := by omega
    rw [fr_140c hgx mx w1 hf (by rw [← n0]; exact lx.2.1)]
    exact last x fx ot rfl rfl rfl rfl (fun z => absurd z h0)
