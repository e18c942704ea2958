/-! A RUN of the class begins anew -/
def fl_rs0 (h : fl_H) (r : Nat) : fl_H := fl_wl (fl_wi h r (fl_up (fl_i h r) 3 (Int32.ofNat 0))) r (fl_up (fl_up (fl_up (fl_l h r) 5 0) 6 0) 7 0)
def fl_rs (h : fl_H) (r : Nat) (g : Nat → Nat) : fl_H := fl_sb (fl_sb (fl_rs0 h r) (r + 14 + 1) g) (r + 14 + 10) g
theorem fl_rs_lo {h : fl_H} {r : Nat} {g : Nat → Nat} {q : Nat} (h0 : q ≠ r) (h1 : q < r + 21 ∨ r + 32 < q) : fl_l (fl_rs h r g) q = fl_l h q := by
  unfold fl_rs
  rw [fl_sb_lo (by omega) (by omega), fl_sb_lo (by omega) (by omega)]
  unfold fl_rs0
  rw [fl_l_wl, if_neg h0, fl_l_wi]
theorem fl_rs_i {h : fl_H} {r : Nat} {g : Nat → Nat} : fl_i (fl_rs h r g) = fl_i (fl_rs0 h r) := by
  unfold fl_rs
  rw [fl_i_sb, fl_i_sb]
theorem fl_rs_io {h : fl_H} {r : Nat} {g : Nat → Nat} {q : Nat} (h0 : q ≠ r) : fl_i (fl_rs h r g) q = fl_i h q := by
  rw [fl_rs_i]
  unfold fl_rs0
  rw [fl_i_wl, fl_i_wi, if_neg h0]
theorem fl_rs_ir {h : fl_H} {r : Nat} {g : Nat → Nat} : fl_i (fl_rs h r g) r = fl_up (fl_i h r) 3 (Int32.ofNat 0) := by
  rw [fl_rs_i]
  unfold fl_rs0
  rw [fl_i_wl, fl_i_wi, if_pos rfl]
theorem fl_rs_lr {h : fl_H} {r : Nat} {g : Nat → Nat} : fl_l (fl_rs h r g) r = fl_up (fl_up (fl_up (fl_l h r) 5 0) 6 0) 7 0 := by
  unfold fl_rs
  rw [fl_sb_lo (by omega) (by omega), fl_sb_lo (by omega) (by omega)]
  unfold fl_rs0
  rw [fl_l_wl, if_pos rfl]
section
variable {k0 : Nat → Nat × Nat} {h : fl_H} {g : Nat → Nat} {r : Nat}
theorem fl_rs_rg : fl_rg r (r + 38) h (fl_rs h r g) := by
  refine ⟨?_, ?_, ?_, fun q hq => ⟨fl_rs_io (by omega), fl_rs_lo (by omega) (by omega)⟩⟩
  · unfold fl_rs fl_rs0; rw [fl_1_sb, fl_1_sb, fl_1_wl, fl_1_wi]
  · unfold fl_rs fl_rs0; rw [fl_k_sb, fl_k_sb, fl_k_wl, fl_k_wi]
  · unfold fl_rs fl_rs0; rw [fl_r_sb, fl_r_sb, fl_r_wl, fl_r_wi]
theorem fc_28 (hg : fl_g k0 h) (rr : fl_isR k0 r) (w : fl_wf g) (d : fl_net h (r + 1) g) : fl_cl fl_C 28 [.ref r] h = some (some none, fl_rs h r g) := by
  have hg2 : fl_g k0 (fl_rs0 h r) := ⟨by unfold fl_rs0; rw [fl_k_wl, fl_k_wi]; exact hg.1, by unfold fl_rs0; rw [fl_r_wl, fl_r_wi]; exact hg.2⟩
  have d2 : fl_net (fl_rs0 h r) (r + 1) g := by
    refine fl_net_fr d ?_ (fun b h1 h2 => ?_)
    · unfold fl_rs0; rw [fl_i_wl, fl_i_wi, if_neg (by omega)]
    · unfold fl_rs0; rw [fl_l_wl, if_neg (by omega), fl_l_wi]
  have e : fl_cl fl_C 27 [.ref (r + 14), .ref (r + 1)] (fl_rs0 h r) = some (some none, fl_rs h r g) := fc_27 hg2 rr.2.1 rr.2.2.1 w d2 (by omega)
  unfold fl_rs0 at e
  clear w d d2 hg2
  rw [fbE_28]
  simp (disch := omega) only [fl_k_wl, fl_r_wl, fl_i_wl, fl_l_wl, fl_1_wl, fl_k_wi, fl_r_wi, fl_l_wi, fl_1_wi, fl_i_wi, fl_k_si, fl_r_si, fl_l_si, fl_k_sl, fl_r_sl, fl_i_sl, fl_up_self, fl_up_ne, fl_si_wi, fl_sl_wl, fl_wi_wi, fl_wl_wl, hg.1, hg.2, rr.1, rr.2.2.1.1, fl_lit, fl_nadd, fl_nmul, fl_ndiv, fl_nsub, fl_msub, fl_nle, fl_nlt, fl_neq, fl_nclamp, fl_nin, fl_ltT, fl_ltF, fl_leT, fl_leF, fl_eqT, fl_eqF, decide_true, decide_false, Bool.true_and, Bool.and_true, Bool.false_and, Bool.and_false, if_true, if_false, Bool.false_eq_true, Option.isSome_some, Option.getD_some, not_true_eq_false, not_false_eq_true, Option.toList_some, Option.toList_none, List.cons_append, List.nil_append, fbC_28_5, fbC_28_10, fbC_28_15, fbC_28_20, e, fbP_28_31]
theorem fl_rs_rn (w : fl_wf g) (d : fl_net h (r + 1) g) (h4 : fl_i h r 4 = Int32.ofNat (g 77)) (h76 : g 76 = 0) : fl_rn (fl_rs h r g) r g 0 := by
  have w1 := w.1
  refine ⟨fl_net_fr d (fl_rs_io (by omega)) (fun b h1 h2 => fl_rs_lo (by omega) (by omega)), ⟨?_, ?_⟩, ⟨?_, ?_, ?_⟩, ?_, ?_, ?_, ?_⟩
  · rw [fl_rs_ir, fl_up_self, h76]
  · rw [fl_rs_ir, fl_up_ne (by omega)]; exact h4
  · rw [fl_rs_lr, fl_up_ne (by omega), fl_up_ne (by omega), fl_up_self, h76, fl_B_0]
    exact fl_B_congr fun c _ => (Bool.and_false _).symm
  · rw [fl_rs_lr, fl_up_ne (by omega), fl_up_self, h76, fl_B_0]
    exact fl_B_congr fun c _ => (Bool.and_false _).symm
  · rw [fl_rs_lr, fl_up_self]
    exact ⟨rfl, fun c _ z => by rw [fl_hb_0] at z; cases z⟩
  · intro t ht; omega
  · intro f _ ha; rw [h76] at ha; cases ha
  · intro z; omega
  · intro k hk h8
    have k1 : g 1 ≤ k := by
      by_cases l : k < g 1
      · have := w.2.1 k l; omega
      · omega
    have gd : ∀ f, fl_hd g f (fl_ps g) 0 k = g (40 + k) := fun f => rfl
    have ch : ∀ c, fl_chn g c k = g (40 + k) := fun c => by
      unfold fl_chn fl_fhd
      rw [h76]
      repeat' split
      all_goals rfl
    have e1 : fl_l (fl_rs h r g) (r + 14 + 1 + 6) = fl_l (fl_sb (fl_rs0 h r) (r + 14 + 1) g) (r + 14 + 1 + 6) := by
      unfold fl_rs
      rw [fl_sb_lo (by omega) (by omega)]
    have e0 : fl_l (fl_rs h r g) (r + 14 + 1 + 8) = fl_l (fl_sb (fl_rs0 h r) (r + 14 + 1) g) (r + 14 + 1 + 8) := by
      unfold fl_rs
      rw [fl_sb_lo (by omega) (by omega)]
    rw [h76]
    refine ⟨⟨?_, ?_⟩, ?_, ?_⟩
    · rw [e1]
      unfold fl_sb
      rw [fl_ww_la (by omega), fl_hy_in ⟨k1, hk⟩]
      rfl
    · rw [e0]
      unfold fl_sb
      rw [fl_ww_lb, fl_hy_in ⟨k1, hk⟩]
      rfl
    · unfold fl_rs
      unfold fl_sb
      rw [fl_ww_la (by omega), fl_hy_in ⟨k1, hk⟩]
      exact fl_B_congr fun c _ => by rw [ch]
    · unfold fl_rs
      unfold fl_sb
      rw [fl_ww_lb, fl_hy_in ⟨k1, hk⟩]
      exact fl_B_congr fun c _ => by rw [ch]
end
/-! THE INVARIANT of the law's loop -/
/-- the text, kept by both -/
abbrev fl_iT (h : fl_H) (n : Nat) (tx : Nat → Nat) : Prop := n ≤ 80 ∧ fl_i h 259 4 = Int32.ofNat n ∧ fl_i h 1 1 = Int32.ofNat 80 ∧ fl_i h 1 2 = Int32.ofNat n ∧ ∀ j, j < n → tx j < 256 ∧ fl_i h 261 j = Int32.ofNat (tx j) ∧ fl_l h 3 j = Int64.ofNat (tx j)
/-- what was told -/
abbrev fl_iO (h : fl_H) (n : Nat) (rv : Nat → Int64) : Prop := n ≤ 6 ∧ fl_i h 259 1 = Int32.ofNat n ∧ fl_i h 4 1 = Int32.ofNat 6 ∧ fl_i h 4 2 = Int32.ofNat n ∧ ∀ j, j < n → fl_l h 260 j = rv j ∧ fl_l h 6 j = rv j
/-- why a text was refused -/
abbrev fl_iC (h : fl_H) (n : Nat) (ck cm : Nat → Nat) : Prop := n ≤ 4 ∧ fl_i h 259 11 = Int32.ofNat n ∧ fl_i h 21 1 = Int32.ofNat 4 ∧ fl_i h 21 2 = Int32.ofNat n ∧ fl_i h 24 1 = Int32.ofNat 4 ∧ fl_i h 24 2 = Int32.ofNat n ∧ ∀ j, j < n → ck j < 256 ∧ cm j < 256 ∧ fl_i h 264 j = Int32.ofNat (ck j) ∧ fl_i h 265 j = Int32.ofNat (cm j) ∧ fl_l h 23 j = Int64.ofNat (ck j) ∧ fl_l h 26 j = Int64.ofNat (cm j)
/-- the net and its run, and the two that are kept -/
abbrev fl_iG (h : fl_H) (g g1 g2 : Nat → Nat) (b1 b2 : Bool) (s s1 s2 : Int64) : Prop :=
  fl_wf g ∧ fl_mm h g ∧ fl_l h 263 0 = s ∧ fl_rn h 27 g s ∧
  (fl_i h 0 6 = Int32.ofNat b1.toNat ∧ fl_i h 283 0 = Int32.ofNat b1.toNat ∧ (b1 = true → fl_wf g1 ∧ (∀ j, j < 126 → fl_i h 262 (126 + j) = Int32.ofNat (g1 j)) ∧ fl_l h 263 1 = s1 ∧ fl_rn h 66 g1 s1)) ∧
  (fl_i h 0 7 = Int32.ofNat b2.toNat ∧ fl_i h 283 1 = Int32.ofNat b2.toNat ∧ (b2 = true → fl_wf g2 ∧ (∀ j, j < 126 → fl_i h 262 (252 + j) = Int32.ofNat (g2 j)) ∧ fl_l h 263 2 = s2 ∧ fl_rn h 105 g2 s2))
def fl_Inv (k0 : Nat → Nat × Nat) (c : Nat × Nat × Nat × Bool) (h : fl_H) : Prop := fl_g k0 h ∧ h.1 = c ∧ (∃ n tx, fl_iT h n tx) ∧ (∃ n rv, fl_iO h n rv) ∧ (∃ n ck cm, fl_iC h n ck cm) ∧ ∃ g g1 g2 b1 b2 s s1 s2, fl_iG h g g1 g2 b1 b2 s s1 s2
