/-! A BENCH that all faults are put on, a row of patterns -/
abbrev fl_lvf (g : Nat → Nat) (c : Nat) : Bool := decide (c < 2 * (g 0 + g 2))
/-- what a bench's registers hold ahead of tick t; the values of tick t -/
abbrev fl_bn (h : fl_H) (b : Nat) (g : Nat → Nat) (t : Nat) (ps : Nat → Nat) : Prop := ∀ k, k < g 0 → g (4 + k) = 8 → (fl_l h (b + 1 + 6) k = fl_B (fun _ => decide (fl_hd g 64 ps t k = 1)) ∧ fl_l h (b + 1 + 8) k = fl_B (fun _ => decide (fl_hd g 64 ps t k = 0))) ∧ fl_l h (b + 10 + 6) k = fl_B (fun c => decide (fl_hd g (fl_fa (fl_lvf g) c) ps t k = 1)) ∧ fl_l h (b + 10 + 8) k = fl_B (fun c => decide (fl_hd g (fl_fa (fl_lvf g) c) ps t k = 0))
abbrev fl_bv (h : fl_H) (b : Nat) (g : Nat → Nat) (t : Nat) (ps : Nat → Nat) : Prop := ∀ k, k < g 0 → (fl_l h (b + 1 + 2) k = fl_B (fun _ => decide (fl_vl g 64 ps t k = 1)) ∧ fl_l h (b + 1 + 4) k = fl_B (fun _ => decide (fl_vl g 64 ps t k = 0))) ∧ fl_l h (b + 10 + 2) k = fl_B (fun c => decide (fl_vl g (fl_fa (fl_lvf g) c) ps t k = 1)) ∧ fl_l h (b + 10 + 4) k = fl_B (fun c => decide (fl_vl g (fl_fa (fl_lvf g) c) ps t k = 0))
/-- a bench's cells -/
abbrev fl_SB (b q j : Nat) : Prop := b + 1 ≤ q ∧ q ≤ b + 18
theorem fl_hd_ps {g : Nat → Nat} {f : Nat} {ps ps' : Nat → Nat} : ∀ {t : Nat}, (∀ i, i < t → ps' i = ps i) → fl_hd g f ps' t = fl_hd g f ps t
  | 0, _ => rfl
  | t + 1, h => by rw [fl_hd, fl_hd, fl_hd_ps (t := t) (fun i hi => h i (by omega)), h t (by omega)]
theorem fl_vl_ps {g : Nat → Nat} {f : Nat} {ps ps' : Nat → Nat} {t : Nat} (h : ∀ i, i ≤ t → ps' i = ps i) : fl_vl g f ps' t = fl_vl g f ps t := by
  unfold fl_vl
  rw [fl_hd_ps (fun i hi => h i (by omega)), h t (by omega)]
theorem fl_shn_ps {g : Nat → Nat} {f : Nat} {ps ps' : Nat → Nat} {t : Nat} (h : ∀ i, i ≤ t → ps' i = ps i) : fl_shn g f ps' t = fl_shn g f ps t := by
  unfold fl_shn
  rw [fl_vl_ps h, fl_vl_ps h]
/-- one of two values, both known, and unlike -/
theorem fl_sqb {x y : Nat} (hx : x ≤ 2) (hy : y ≤ 2) : ((decide (y = 1) && decide (x = 0)) || (decide (y = 0) && decide (x = 1))) = (decide (x ≠ 2) && (decide (y ≠ 2) && decide (x ≠ y))) := by
  rcases (show x = 0 ∨ x = 1 ∨ x = 2 by omega) with e | e | e <;> rcases (show y = 0 ∨ y = 1 ∨ y = 2 by omega) with e' | e' | e' <;> subst e <;> subst e' <;> rfl
theorem fl_sqs {g a : Nat → Nat} {o : Nat} : fl_sq g a a o = false := by
  unfold fl_sq
  simp
theorem fl_any_ff {q : Nat → Bool} {n : Nat} (h : ∀ i, i < n → q i = false) : fl_any q n = false := by
  cases e : fl_any q n with
  | false => rfl
  | true =>
    obtain ⟨k, hk, hq⟩ := fl_any_iff.mp e
    rw [h k hk] at hq
    cases hq
/-- what shows, of the faults that there are -/
theorem fl_shl_lv {g ps : Nat → Nat} {t c : Nat} : fl_any (fl_sq g (fl_vl g 64 ps t) (fl_vl g (fl_fa (fl_lvf g) c) ps t)) (g 3) = (fl_lvf g c && fl_shn g c ps t) := by
  unfold fl_fa
  cases e : fl_lvf g c with
  | true => rw [if_pos rfl, Bool.true_and]; rfl
  | false =>
    rw [if_neg (by decide), Bool.false_and]
    exact fl_any_ff (fun i _ => fl_sqs)
section
variable {k0 : Nat → Nat × Nat} {h : fl_H} {g ps : Nat → Nat} {n b t : Nat}
theorem fl_sb_df {o : Nat} {S : Nat → Nat → Prop} (z : ∀ q j, q = o + 6 ∨ q = o + 8 → S q j) : fl_df S h (fl_sb h o g) := by
  unfold fl_sb fl_ww
  exact fl_df_wl (fl_df_wl fl_df_rfl (fun j y => absurd (z _ j (Or.inl rfl)) y)) (fun j y => absurd (z _ j (Or.inr rfl)) y)
theorem fl_tc_df {o pt : Nat} {lv : Nat → Bool} {hd : Nat → Nat → Nat} {S : Nat → Nat → Prop} (z : ∀ q j, q = o + 2 ∨ q = o + 4 ∨ q = o + 6 ∨ q = o + 8 → S q j) : fl_df S h (fl_tc h o g lv pt hd) := by
  unfold fl_tc fl_ww
  exact fl_df_wl (fl_df_wl (fl_df_wl (fl_df_wl fl_df_rfl (fun j y => absurd (z _ j (by omega)) y)) (fun j y => absurd (z _ j (by omega)) y)) (fun j y => absurd (z _ j (by omega)) y)) (fun j y => absurd (z _ j (by omega)) y)
theorem fc_bs (hg : fl_g k0 h) (nn : fl_isN k0 n) (bb : fl_isB k0 b) (w : fl_wf g) (d : fl_net h n g) (sep : n + 12 < b ∨ b + 18 < n) : ∃ y, fl_cl fl_C 27 [.ref b, .ref n] h = some (some none, y) ∧ fl_df (fl_SB b) h y ∧ ∀ ps, fl_bn y b g 0 ps := by
  refine ⟨_, fc_27 hg nn bb w d sep, fl_df_tr (fl_sb_df (fun q j z => by omega)) (fl_sb_df (fun q j z => by omega)), fun ps k hk h8 => ?_⟩
  have k1 : g 1 ≤ k := by
    by_cases l : k < g 1
    · have := (w.2.1 k l).1; omega
    · omega
  have c1 : ∀ (H : fl_H) o z, z = 6 ∨ z = 8 → fl_l (fl_sb H o g) (o + z) k = fl_B (fun _ => decide (g (40 + k) = if z = 6 then 1 else 0)) := fun H o z hz => by
    unfold fl_sb
    rcases hz with e | e <;> subst e
    · rw [fl_ww_la (by omega), fl_hy_in ⟨k1, hk⟩]; rfl
    · rw [fl_ww_lb, fl_hy_in ⟨k1, hk⟩]; rfl
  refine ⟨⟨?_, ?_⟩, ?_, ?_⟩
  · rw [fl_sb_lo (by omega) (by omega), c1 _ _ 6 (Or.inl rfl)]; rfl
  · rw [fl_sb_lo (by omega) (by omega), c1 _ _ 8 (Or.inr rfl)]; rfl
  · rw [c1 _ _ 6 (Or.inl rfl)]; rfl
  · rw [c1 _ _ 8 (Or.inr rfl)]; rfl
theorem fc_bt (hg : fl_g k0 h) (nn : fl_isN k0 n) (bb : fl_isB k0 b) (w : fl_wf g) (d : fl_net h n g) (sep : n + 12 < b ∨ b + 18 < n) (ok : fl_okp g ps (t + 1)) (B : fl_bn h b g t ps) : ∃ y, fl_cl fl_C 116 [.ref b, .ref n, .int (Int32.ofNat (ps t)), .long (fl_B (fl_lvf g))] h = some (some none, y) ∧ fl_df (fl_SB b) h y ∧ fl_bn y b g (t + 1) ps ∧ fl_bv y b g t ps := by
  have okt : fl_okp g ps t := fun i hi => ok i (by omega)
  have p := ok t (by omega)
  refine ⟨_, fc_116 hg nn bb w d sep p.1 p.2 (fl_lvf g) (fun _ => fl_hd g 64 ps t) (fun c => fl_hd g (fl_fa (fl_lvf g) c) ps t) (fun c k hk => fl_hd_le w okt t (Nat.le_refl _) k hk) (fun c k hk => fl_hd_le w okt t (Nat.le_refl _) k hk) (fun k hk h8 => (B k hk h8).1) (fun k hk h8 => (B k hk h8).2), fl_df_tr (fl_tc_df (fun q j z => by omega)) (fl_tc_df (fun q j z => by omega)), fun k hk h8 => ?_, fun k hk => ?_⟩
  · have k1 : g 1 ≤ k := by
      by_cases l : k < g 1
      · have := (w.2.1 k l).1; omega
      · omega
    refine ⟨⟨?_, ?_⟩, ?_, ?_⟩
    · rw [fl_tc_lo (by omega) (by omega) (by omega) (by omega), fl_tc_h1 ⟨k1, hk, h8⟩]; rfl
    · rw [fl_tc_lo (by omega) (by omega) (by omega) (by omega), fl_tc_h0 ⟨k1, hk, h8⟩]; rfl
    · rw [fl_tc_h1 ⟨k1, hk, h8⟩]; rfl
    · rw [fl_tc_h0 ⟨k1, hk, h8⟩]; rfl
  · refine ⟨⟨?_, ?_⟩, ?_, ?_⟩
    · rw [fl_tc_lo (by omega) (by omega) (by omega) (by omega), fl_tc_1 hk]; rfl
    · rw [fl_tc_lo (by omega) (by omega) (by omega) (by omega), fl_tc_0 hk]; rfl
    · rw [fl_tc_1 hk]; rfl
    · rw [fl_tc_0 hk]; rfl
/-- the list of a line of a bench -/
theorem fl_bv_dl (w : fl_wf g) (ok : fl_okp g ps (t + 1)) (V : fl_bv h b g t ps) {k : Nat} (hk : k < g 0) : fl_dl h b k = fl_B (fun c => decide (fl_vl g 64 ps t k ≠ 2) && (decide (fl_vl g (fl_fa (fl_lvf g) c) ps t k ≠ 2) && decide (fl_vl g 64 ps t k ≠ fl_vl g (fl_fa (fl_lvf g) c) ps t k))) := by
  have v := V k hk
  unfold fl_dl
  rw [v.1.1, v.1.2, v.2.1, v.2.2, fl_B_and, fl_B_and, fl_B_or]
  exact fl_B_congr fun c _ => fl_sqb (fl_vl_le w ok (by omega) k) (fl_vl_le w ok (by omega) k)
theorem fc_bsh (hg : fl_g k0 h) (nn : fl_isN k0 n) (bb : fl_isB k0 b) (w : fl_wf g) (d : fl_net h n g) (ok : fl_okp g ps (t + 1)) (V : fl_bv h b g t ps) : fl_cl fl_C 119 [.ref b, .ref n] h = some (some (some (.long (fl_B (fun c => fl_lvf g c && fl_shn g c ps t)))), h) := by
  rw [fc_119 hg bb nn w d, fl_bo_B (q := fun j c => fl_sq g (fl_vl g 64 ps t) (fl_vl g (fl_fa (fl_lvf g) c) ps t) j) (fun j hj => fl_bv_dl w ok V (w.2.2.2.2.2.1 j hj))]
  rw [fl_B_congr (q' := fun c => fl_lvf g c && fl_shn g c ps t) (fun c _ => fl_shl_lv)]
end
