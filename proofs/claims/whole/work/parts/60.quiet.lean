/-! QUIET calls: what they tell, and what they may leave as they like -/
abbrev fl_SQ (q j : Nat) : Prop := fl_scr q j ∨ (q = 259 ∧ j = 1) ∨ (q = 4 ∧ j = 2) ∨ q = 6 ∨ q = 260 ∨ (144 ≤ q ∧ q ≤ 258)
theorem fl_SQ_S0 {q j : Nat} (z : fl_SQ q j) : fl_S0 q j := by
  rcases z with z | z | z | z | z | z
  · exact fl_scr_S0 z
  · exact fl_S0_b (by omega)
  · exact fl_S0_i z
  · exact fl_S0_d (by omega)
  · exact fl_S0_j z
  · exact fl_S0_c z
section
variable {k0 : Nat → Nat × Nat} {i0 : Nat → Nat → Int32} {h h' : fl_H} {c : Nat × Nat × Nat × Bool}
theorem fl_Inv_sq (I : fl_Inv k0 c h) (a : fl_df fl_SQ h h') (iO : ∃ n rv, fl_iO h' n rv) : fl_Inv k0 c h' := by
  obtain ⟨tn, tx, iT⟩ := I.2.2.1
  obtain ⟨cn, ck, cm, iC⟩ := I.2.2.2.2.1
  obtain ⟨g, g1, g2, b1, b2, s, s1, s2, iG⟩ := I.2.2.2.2.2
  have i := fun q j z => (a.2.2.2 q j z).1
  exact fl_Inv_df I (fl_df_mo a (fun q j z => fl_SQ_S0 z)) ⟨tn, tx, fl_iT_fr iT (i 259 4 (by omega)) (fl_df_i a (fun j => by omega)) (fl_df_i a (fun j => by omega)) (fl_df_l a (fun j => by omega))⟩ iO ⟨cn, ck, cm, fl_iC_fr iC (i 259 11 (by omega)) (fl_df_i a (fun j => by omega)) (fl_df_i a (fun j => by omega)) (fl_df_i a (fun j => by omega)) (fl_df_i a (fun j => by omega)) (fl_df_l a (fun j => by omega)) (fl_df_l a (fun j => by omega))⟩ iG.1 (fun j hj => by rw [i 262 j (by omega)]; exact iG.2.1 j hj) (by rw [(a.2.2.2 263 0 (by omega)).2]; exact iG.2.2.1) (fl_rn_fr iG.2.2.2.1 (fun q y z => ⟨fl_df_i a (fun j => by omega), fl_df_l a (fun j => by omega)⟩))
/-- nothing is told -/
theorem fl_iO_sq (iO : ∃ n rv, fl_iO h n rv) (e1 : fl_i h' 259 1 = fl_i h 259 1) (e2 : fl_l h' 260 = fl_l h 260) (e3 : fl_i h' 4 = fl_i h 4) (e4 : fl_l h' 6 = fl_l h 6) : ∃ n rv, fl_iO h' n rv := by
  obtain ⟨n, rv, x⟩ := iO
  exact ⟨n, rv, fl_iO_fr x e1 e2 e3 e4⟩
/-- the class's row, the reference's row: numbers told anew -/
def fl_ca1 (h : fl_H) (A : Int64) : fl_H := fl_tc6 h 0 A
def fl_ca2 (h : fl_H) (A B : Int64) : fl_H := fl_tc6 (fl_tc6 h 0 A) 1 B
def fl_ca3 (h : fl_H) (A B C : Int64) : fl_H := fl_tc6 (fl_tc6 (fl_tc6 h 0 A) 1 B) 2 C
def fl_ra1 (h : fl_H) (A : Int64) : fl_H := fl_ae (fl_a0 h) 0 A
def fl_ra2 (h : fl_H) (A B : Int64) : fl_H := fl_ae (fl_ae (fl_a0 h) 0 A) 1 B
def fl_ra3 (h : fl_H) (A B C : Int64) : fl_H := fl_ae (fl_ae (fl_ae (fl_a0 h) 0 A) 1 B) 2 C
abbrev fl_Sc6 (q j : Nat) : Prop := (q = 4 ∧ j = 2) ∨ q = 6
abbrev fl_Sae (q j : Nat) : Prop := (q = 259 ∧ j = 1) ∨ q = 260
theorem fl_Sc6_SQ {q j : Nat} (z : fl_Sc6 q j) : fl_SQ q j := by
  rcases z with z | z
  · exact Or.inr (Or.inr (Or.inl z))
  · exact Or.inr (Or.inr (Or.inr (Or.inl z)))
theorem fl_Sae_SQ {q j : Nat} (z : fl_Sae q j) : fl_SQ q j := by
  rcases z with z | z
  · exact Or.inr (Or.inl z)
  · exact Or.inr (Or.inr (Or.inr (Or.inr (Or.inl z))))
theorem fl_tc6_df {n : Nat} {x : Int64} (a : fl_df fl_Sc6 h h') : fl_df fl_Sc6 h (fl_tc6 h' n x) := by
  unfold fl_tc6
  exact fl_df_wi (fl_df_wl a (fun j y => by omega)) (fun j y => by rw [fl_i_wl]; exact fl_up_ne (by omega))
theorem fl_ca1_df {A : Int64} : fl_df fl_Sc6 h (fl_ca1 h A) := fl_tc6_df fl_df_rfl
theorem fl_ca2_df {A B : Int64} : fl_df fl_Sc6 h (fl_ca2 h A B) := fl_tc6_df (fl_tc6_df fl_df_rfl)
theorem fl_ca3_df {A B C : Int64} : fl_df fl_Sc6 h (fl_ca3 h A B C) := fl_tc6_df (fl_tc6_df (fl_tc6_df fl_df_rfl))
theorem fl_ra1_df {A : Int64} : fl_df fl_Sae h (fl_ra1 h A) := fl_ae_df (fl_a0_df fl_df_rfl (by omega)) (by omega) (by omega)
theorem fl_ra2_df {A B : Int64} : fl_df fl_Sae h (fl_ra2 h A B) := fl_ae_df (fl_ae_df (fl_a0_df fl_df_rfl (by omega)) (by omega) (by omega)) (by omega) (by omega)
theorem fl_ra3_df {A B C : Int64} : fl_df fl_Sae h (fl_ra3 h A B C) := fl_ae_df (fl_ae_df (fl_ae_df (fl_a0_df fl_df_rfl (by omega)) (by omega) (by omega)) (by omega) (by omega)) (by omega) (by omega)
theorem fl_ca1_v {A : Int64} : fl_i (fl_ca1 h A) 4 2 = Int32.ofNat 1 ∧ fl_l (fl_ca1 h A) 6 0 = A := by
  unfold fl_ca1
  exact ⟨fl_tc6_n, by rw [fl_tc6_l, fl_up_self]⟩
theorem fl_ca2_v {A B : Int64} : fl_i (fl_ca2 h A B) 4 2 = Int32.ofNat 2 ∧ fl_l (fl_ca2 h A B) 6 0 = A ∧ fl_l (fl_ca2 h A B) 6 1 = B := by
  unfold fl_ca2
  exact ⟨fl_tc6_n, by rw [fl_tc6_l, fl_up_ne (by omega), fl_tc6_l, fl_up_self], by rw [fl_tc6_l, fl_up_self]⟩
theorem fl_ca3_v {A B C : Int64} : fl_i (fl_ca3 h A B C) 4 2 = Int32.ofNat 3 ∧ fl_l (fl_ca3 h A B C) 6 0 = A ∧ fl_l (fl_ca3 h A B C) 6 1 = B ∧ fl_l (fl_ca3 h A B C) 6 2 = C := by
  unfold fl_ca3
  exact ⟨fl_tc6_n, by rw [fl_tc6_l, fl_up_ne (by omega), fl_tc6_l, fl_up_ne (by omega), fl_tc6_l, fl_up_self], by rw [fl_tc6_l, fl_up_ne (by omega), fl_tc6_l, fl_up_self], by rw [fl_tc6_l, fl_up_self]⟩
theorem fl_ra1_v {A : Int64} : fl_i (fl_ra1 h A) 259 1 = Int32.ofNat 1 ∧ fl_l (fl_ra1 h A) 260 0 = A := by
  unfold fl_ra1
  exact ⟨fl_ae_n, by rw [fl_ae_l, fl_up_self]⟩
theorem fl_ra2_v {A B : Int64} : fl_i (fl_ra2 h A B) 259 1 = Int32.ofNat 2 ∧ fl_l (fl_ra2 h A B) 260 0 = A ∧ fl_l (fl_ra2 h A B) 260 1 = B := by
  unfold fl_ra2
  exact ⟨fl_ae_n, by rw [fl_ae_l, fl_up_ne (by omega), fl_ae_l, fl_up_self], by rw [fl_ae_l, fl_up_self]⟩
theorem fl_ra3_v {A B C : Int64} : fl_i (fl_ra3 h A B C) 259 1 = Int32.ofNat 3 ∧ fl_l (fl_ra3 h A B C) 260 0 = A ∧ fl_l (fl_ra3 h A B C) 260 1 = B ∧ fl_l (fl_ra3 h A B C) 260 2 = C := by
  unfold fl_ra3
  exact ⟨fl_ae_n, by rw [fl_ae_l, fl_up_ne (by omega), fl_ae_l, fl_up_ne (by omega), fl_ae_l, fl_up_self], by rw [fl_ae_l, fl_up_ne (by omega), fl_ae_l, fl_up_self], by rw [fl_ae_l, fl_up_self]⟩
/-- the calls that tell -/
theorem fc_ca1 (hg : fl_g k0 h) (e1 : fl_i h 4 1 = Int32.ofNat 6) (A : Int64) : fl_cl fl_C 125 [.ref 0, .long A] h = some (some none, fl_ca1 h A) := fc_tell hg e1 A
theorem fc_ca2 (hg : fl_g k0 h) (e1 : fl_i h 4 1 = Int32.ofNat 6) (A B : Int64) : fl_cl fl_C 32 [.ref 4, .long B] (fl_ca1 h A) = some (some none, fl_ca2 h A B) := by
  unfold fl_ca1 fl_ca2
  exact fc_add (fl_qo_g hg fl_tc6_qo) (by omega) (by rw [fl_tc6_r]; exact e1) fl_tc6_n B
theorem fc_ca3 (hg : fl_g k0 h) (e1 : fl_i h 4 1 = Int32.ofNat 6) (A B C : Int64) : fl_cl fl_C 32 [.ref 4, .long C] (fl_ca2 h A B) = some (some none, fl_ca3 h A B C) := by
  unfold fl_ca2 fl_ca3
  exact fc_add (fl_qo_g (fl_qo_g hg fl_tc6_qo) fl_tc6_qo) (by omega) (by rw [fl_tc6_r, fl_tc6_r]; exact e1) fl_tc6_n C
theorem fr_ra1 (hg : fl_g k0 h) (A : Int64) : fl_cl fl_C 143 [.ref 259, .long A] (fl_a0 h) = some (some none, fl_ra1 h A) := fr_143 (fl_qo_g hg fl_a0_qo) (by omega) fl_a0_n A
theorem fr_ra2 (hg : fl_g k0 h) (A B : Int64) : fl_cl fl_C 143 [.ref 259, .long B] (fl_ra1 h A) = some (some none, fl_ra2 h A B) := fr_143 (fl_df_g hg fl_ra1_df) (by omega) fl_ra1_v.1 B
theorem fr_ra3 (hg : fl_g k0 h) (A B C : Int64) : fl_cl fl_C 143 [.ref 259, .long C] (fl_ra2 h A B) = some (some none, fl_ra3 h A B C) := fr_143 (fl_df_g hg fl_ra2_df) (by omega) fl_ra2_v.1 C
theorem fl_a0_w : fl_wi h 259 (fl_up (fl_i h 259) 1 (Int32.ofNat 0)) = fl_a0 h := rfl
theorem fl_a0_g (hg : fl_g k0 h) : fl_g k0 (fl_a0 h) := fl_qo_g hg fl_a0_qo
end
