/-! FRAMES in general; signs told to a run -/
def fl_df (S : Nat → Nat → Prop) (h h' : fl_H) : Prop := h'.1 = h.1 ∧ fl_k h' = fl_k h ∧ fl_r h' = fl_r h ∧ ∀ q j, ¬ S q j → fl_i h' q j = fl_i h q j ∧ fl_l h' q j = fl_l h q j
section
variable {k0 : Nat → Nat × Nat} {h h' h'' : fl_H} {S T : Nat → Nat → Prop} {c : Nat × Nat × Nat × Bool}
theorem fl_df_rfl : fl_df S h h := ⟨rfl, rfl, rfl, fun _ _ _ => ⟨rfl, rfl⟩⟩
theorem fl_df_tr (a : fl_df S h h') (b : fl_df S h' h'') : fl_df S h h'' := ⟨b.1.trans a.1, b.2.1.trans a.2.1, b.2.2.1.trans a.2.2.1, fun q j z => ⟨(b.2.2.2 q j z).1.trans (a.2.2.2 q j z).1, (b.2.2.2 q j z).2.trans (a.2.2.2 q j z).2⟩⟩
theorem fl_df_mo (a : fl_df S h h') (st : ∀ q j, S q j → T q j) : fl_df T h h' := ⟨a.1, a.2.1, a.2.2.1, fun q j z => a.2.2.2 q j (fun y => z (st q j y))⟩
theorem fl_df_g (hg : fl_g k0 h) (a : fl_df S h h') : fl_g k0 h' := ⟨a.2.1.trans hg.1, a.2.2.1.trans hg.2⟩
theorem fl_df_i {q : Nat} (a : fl_df S h h') (z : ∀ j, ¬ S q j) : fl_i h' q = fl_i h q := funext fun j => (a.2.2.2 q j (z j)).1
theorem fl_df_l {q : Nat} (a : fl_df S h h') (z : ∀ j, ¬ S q j) : fl_l h' q = fl_l h q := funext fun j => (a.2.2.2 q j (z j)).2
theorem fl_df_wi {q : Nat} {F : Nat → Int32} (a : fl_df S h h') (z : ∀ j, ¬ S q j → F j = fl_i h' q j) : fl_df S h (fl_wi h' q F) := by
  refine ⟨a.1, a.2.1, a.2.2.1, fun p j y => ⟨?_, ?_⟩⟩
  · rw [fl_i_wi]
    by_cases e : p = q
    · subst e; rw [if_pos rfl, z j y]; exact (a.2.2.2 p j y).1
    · rw [if_neg e]; exact (a.2.2.2 p j y).1
  · rw [fl_l_wi]; exact (a.2.2.2 p j y).2
theorem fl_df_wl {q : Nat} {F : Nat → Int64} (a : fl_df S h h') (z : ∀ j, ¬ S q j → F j = fl_l h' q j) : fl_df S h (fl_wl h' q F) := by
  refine ⟨a.1, a.2.1, a.2.2.1, fun p j y => ⟨?_, ?_⟩⟩
  · rw [fl_i_wl]; exact (a.2.2.2 p j y).1
  · rw [fl_l_wl]
    by_cases e : p = q
    · subst e; rw [if_pos rfl, z j y]; exact (a.2.2.2 p j y).2
    · rw [if_neg e]; exact (a.2.2.2 p j y).2
theorem fl_df_wiu {q i : Nat} {x : Int32} (a : fl_df S h h') (z : S q i) : fl_df S h (fl_wi h' q (fl_up (fl_i h' q) i x)) := fl_df_wi a (fun j y => fl_up_ne (fun e => y (by rw [e]; exact z)))
theorem fl_df_wlu {q i : Nat} {x : Int64} (a : fl_df S h h') (z : S q i) : fl_df S h (fl_wl h' q (fl_up (fl_l h' q) i x)) := fl_df_wl a (fun j y => fl_up_ne (fun e => y (by rw [e]; exact z)))
theorem fl_df_rg {a b : Nat} (r : fl_rg a b h h') (z : ∀ q j, a ≤ q → q ≤ b → S q j) : fl_df S h h' := ⟨r.1, r.2.1, r.2.2.1, fun q j y => by
  have : q < a ∨ b < q := by
    by_cases l : a ≤ q ∧ q ≤ b
    · exact absurd (z q j l.1 l.2) y
    · omega
  have := r.2.2.2 q this
  rw [this.1, this.2]
  exact ⟨rfl, rfl⟩⟩
theorem fl_df_qo (a : fl_qo h h') (z : ∀ q j, fl_scr q j ∨ (q = 259 ∧ j = 1) ∨ (q = 4 ∧ j = 2) ∨ q = 6 ∨ q = 260 → S q j) : fl_df S h h' := ⟨a.1, a.2.1, a.2.2.1, fun q j y => ⟨a.2.2.2.2 q j (fun e => y (z q j (Or.inl e))) (fun e => y (z q j (Or.inr (Or.inl e)))) (fun e => y (z q j (Or.inr (Or.inr (Or.inl e))))), by
  rw [a.2.2.2.1 q (fun e => y (z q j (Or.inr (Or.inr (Or.inr (Or.inl e)))))) (fun e => y (z q j (Or.inr (Or.inr (Or.inr (Or.inr e))))))]⟩⟩
theorem fl_df_qt (a : fl_qt h h') (z : ∀ q j, fl_scr q j → S q j) : fl_df S h h' := ⟨a.1, a.2.1, a.2.2.1, fun q j y => ⟨a.2.2.2.2 q j (fun e => y (z q j e)), by rw [a.2.2.2.1]⟩⟩
theorem fl_df_fx {U : Nat → Prop} (a : fl_fx U h h') (z : ∀ q j, U q → S q j) : fl_df S h h' := ⟨a.1, a.2.1, a.2.2.1, fun q j y => ⟨by rw [a.2.2.2.2 q (fun e => y (z q j e))], by rw [a.2.2.2.1]⟩⟩
theorem fl_df_st {i0 : Nat → Nat → Int32} (a : fl_df S h h') (hs : fl_st k0 i0 h) (z : ∀ q j, S q j → q < 285) : fl_st k0 i0 h' := fun q hq hk => (fl_df_i a (fun j y => by have := z q j y; omega)).trans (hs q hq hk)
/-- what a call may change -/
abbrev fl_S0 (q j : Nat) : Prop := (266 ≤ q ∧ q ≤ 282) ∨ (q = 259 ∧ (j = 0 ∨ j = 1 ∨ j = 4 ∨ j = 5 ∨ j = 6 ∨ j = 11 ∨ j = 12 ∨ j = 16 ∨ j = 29 ∨ j = 32)) ∨ (144 ≤ q ∧ q ≤ 258) ∨ (6 ≤ q ∧ q ≤ 65) ∨ (q = 262 ∧ (j < 126 ∨ 378 ≤ j)) ∨ (q = 263 ∧ j = 0) ∨ (q = 1 ∧ j = 2) ∨ q = 3 ∨ (q = 4 ∧ j = 2) ∨ q = 260 ∨ q = 261 ∨ q = 264 ∨ q = 265
theorem fl_S0_a {q j : Nat} (z : 266 ≤ q ∧ q ≤ 282) : fl_S0 q j := Or.inl z
theorem fl_S0_b {q j : Nat} (z : q = 259 ∧ (j = 0 ∨ j = 1 ∨ j = 4 ∨ j = 5 ∨ j = 6 ∨ j = 11 ∨ j = 12 ∨ j = 16 ∨ j = 29 ∨ j = 32)) : fl_S0 q j := Or.inr (Or.inl z)
theorem fl_S0_c {q j : Nat} (z : 144 ≤ q ∧ q ≤ 258) : fl_S0 q j := Or.inr (Or.inr (Or.inl z))
theorem fl_S0_d {q j : Nat} (z : 6 ≤ q ∧ q ≤ 65) : fl_S0 q j := Or.inr (Or.inr (Or.inr (Or.inl z)))
theorem fl_S0_e {q j : Nat} (z : q = 262 ∧ (j < 126 ∨ 378 ≤ j)) : fl_S0 q j := Or.inr (Or.inr (Or.inr (Or.inr (Or.inl z))))
theorem fl_S0_f {q j : Nat} (z : q = 263 ∧ j = 0) : fl_S0 q j := Or.inr (Or.inr (Or.inr (Or.inr (Or.inr (Or.inl z)))))
theorem fl_S0_g {q j : Nat} (z : q = 1 ∧ j = 2) : fl_S0 q j := Or.inr (Or.inr (Or.inr (Or.inr (Or.inr (Or.inr (Or.inl z))))))
theorem fl_S0_h {q j : Nat} (z : q = 3) : fl_S0 q j := Or.inr (Or.inr (Or.inr (Or.inr (Or.inr (Or.inr (Or.inr (Or.inl z)))))))
theorem fl_S0_i {q j : Nat} (z : q = 4 ∧ j = 2) : fl_S0 q j := Or.inr (Or.inr (Or.inr (Or.inr (Or.inr (Or.inr (Or.inr (Or.inr (Or.inl z))))))))
theorem fl_S0_j {q j : Nat} (z : q = 260) : fl_S0 q j := Or.inr (Or.inr (Or.inr (Or.inr (Or.inr (Or.inr (Or.inr (Or.inr (Or.inr (Or.inl z)))))))))
theorem fl_S0_k {q j : Nat} (z : q = 261 ∨ q = 264 ∨ q = 265) : fl_S0 q j := Or.inr (Or.inr (Or.inr (Or.inr (Or.inr (Or.inr (Or.inr (Or.inr (Or.inr (Or.inr z)))))))))
theorem fl_scr_S0 {q j : Nat} (z : fl_scr q j) : fl_S0 q j := by
  rcases z with z | z
  · exact fl_S0_a (by omega)
  · exact fl_S0_b (by omega)
theorem fl_Inv_df (I : fl_Inv k0 c h) (a : fl_df fl_S0 h h') (iT : ∃ n tx, fl_iT h' n tx) (iO : ∃ n rv, fl_iO h' n rv) (iC : ∃ n ck cm, fl_iC h' n ck cm) {g : Nat → Nat} {s : Int64} (w : fl_wf g) (m : fl_mm h' g) (e : fl_l h' 263 0 = s) (r : fl_rn h' 27 g s) : fl_Inv k0 c h' := by
  obtain ⟨hg, hc, _, _, _, g', g1, g2, b1, b2, s', s1, s2, iG⟩ := I
  have ei : ∀ q j, ¬ fl_S0 q j → fl_i h' q j = fl_i h q j := fun q j z => (a.2.2.2 q j z).1
  have el : ∀ q j, ¬ fl_S0 q j → fl_l h' q j = fl_l h q j := fun q j z => (a.2.2.2 q j z).2
  refine ⟨fl_df_g hg a, a.1.trans hc, iT, iO, iC, g, g1, g2, b1, b2, s, s1, s2, w, m, e, r, ⟨by rw [ei 0 6 (by omega)]; exact iG.2.2.2.2.1.1, by rw [ei 283 0 (by omega)]; exact iG.2.2.2.2.1.2.1, fun z => ?_⟩, ⟨by rw [ei 0 7 (by omega)]; exact iG.2.2.2.2.2.1, by rw [ei 283 1 (by omega)]; exact iG.2.2.2.2.2.2.1, fun z => ?_⟩⟩
  · have y := iG.2.2.2.2.1.2.2 z
    exact ⟨y.1, fun j hj => by rw [ei 262 _ (by omega)]; exact y.2.1 j hj, by rw [el 263 1 (by omega)]; exact y.2.2.1, fl_rn_fr y.2.2.2 (fun q h1 h2 => ⟨fl_df_i a (fun j => by omega), fl_df_l a (fun j => by omega)⟩)⟩
  · have y := iG.2.2.2.2.2.2.2 z
    exact ⟨y.1, fun j hj => by rw [ei 262 _ (by omega)]; exact y.2.1 j hj, by rw [el 263 2 (by omega)]; exact y.2.2.1, fl_rn_fr y.2.2.2 (fun q h1 h2 => ⟨fl_df_i a (fun j => by omega), fl_df_l a (fun j => by omega)⟩)⟩
end
/-- a run, some ticks more, of patterns that signs tell -/
def fl_gT (tx : Nat → Nat) (g : Nat → Nat) : Nat → Nat → Nat
  | 0 => g
  | k + 1 => fl_t1 (fl_gT tx g k) (fl_pt tx (k * g 1) (g 1))
def fl_hT (tx : Nat → Nat) (g : Nat → Nat) (r : Nat) (h : fl_H) : Nat → fl_H
  | 0 => h
  | k + 1 => fl_h4 (fl_hT tx g r h k) r (fl_gT tx g k) (fl_pt tx (k * g 1) (g 1))
section
variable {k0 : Nat → Nat × Nat} {h h' : fl_H} {tx g : Nat → Nat}
theorem fl_gT_lt {j : Nat} (hj : j < 76) : ∀ k, fl_gT tx g k j = g j
  | 0 => rfl
  | k + 1 => by rw [fl_gT, fl_t1_lt hj, fl_gT_lt hj k]
theorem fl_gT_76 : ∀ k, fl_gT tx g k 76 = g 76 + k
  | 0 => rfl
  | k + 1 => by rw [fl_gT, fl_t1_76, fl_gT_76 k]; rfl
theorem fl_gT_77 : ∀ k, fl_gT tx g k 77 = g 77
  | 0 => rfl
  | k + 1 => by rw [fl_gT, fl_t1_77, fl_gT_77 k]
theorem fl_pt_ok {n a : Nat} (hn : n ≤ 4) : fl_pt tx a n < 256 ∧ ∀ k, k < n → fl_pt tx a n / 4 ^ k % 4 ≤ 2 := by
  refine ⟨Nat.lt_of_lt_of_le (fl_pt_lt n) (Nat.pow_le_pow_right (by decide) hn : 4 ^ n ≤ 4 ^ 4), fun k hk => ?_⟩
  rw [fl_pt_dig hk]
  exact fl_sval_le _
theorem fl_gT_wf (w : fl_wf g) : ∀ k, g 76 + k ≤ 24 → fl_wf (fl_gT tx g k)
  | 0, _ => w
  | k + 1, hk => by
    have w4 : g 1 ≤ 4 := w.1.2.1
    have p := fl_pt_ok (tx := tx) (a := k * g 1) w4
    rw [fl_gT]
    exact fl_t1_wf (fl_gT_wf w k (by omega)) (by rw [fl_gT_76]; omega) p.1 (by rw [fl_gT_lt (by omega)]; exact p.2)
theorem fl_hT_rg {r : Nat} : ∀ k, fl_rg r (r + 38) h (fl_hT tx g r h k)
  | 0 => ⟨rfl, rfl, rfl, fun _ _ => ⟨rfl, rfl⟩⟩
  | k + 1 => by
    have a := fl_hT_rg (r := r) k
    have b := fl_h4_rg (h := fl_hT tx g r h k) (r := r) (g := fl_gT tx g k) (pt := fl_pt tx (k * g 1) (g 1))
    rw [fl_hT]
    exact ⟨b.1.trans a.1, b.2.1.trans a.2.1, b.2.2.1.trans a.2.2.1, fun q hq => ⟨(b.2.2.2 q hq).1.trans (a.2.2.2 q hq).1, (b.2.2.2 q hq).2.trans (a.2.2.2 q hq).2⟩⟩
theorem fl_hT_rn {r : Nat} {s : Int64} (w : fl_wf g) (d : fl_rn h r g s) : ∀ k, g 76 + k ≤ 24 → fl_rn (fl_hT tx g r h k) r (fl_gT tx g k) s
  | 0, _ => d
  | k + 1, hk => by
    have w4 : g 1 ≤ 4 := w.1.2.1
    have p := fl_pt_ok (tx := tx) (a := k * g 1) w4
    rw [fl_gT, fl_hT]
    exact fl_h4_rn (fl_gT_wf w k (by omega)) (fl_hT_rn w d k (by omega)) (by rw [fl_gT_76]; omega) p.1 (by rw [fl_gT_lt (by omega)]; exact p.2)
end
