/-! THE LAW, its loop (printed by wip/whole/genlaw3.py) -/
section
variable {k0 : Nat → Nat × Nat} {i0 : Nat → Nat → Int32} {h : fl_H} {xs : Nat → Int32} {L i : Nat} {c : Nat × Nat × Nat × Bool}
theorem fw_step (sk : fl_sk k0 i0) (kx : k0 1048608 = (6, L)) (ix : i0 1048608 = xs) (hL : L < 10000) (c2 : c.1 ≤ 285) (I : fl_Inv k0 c h) (hs : fl_st k0 i0 h) (hi : i + 3 ≤ L) : ∃ h' c', (c' = c ∨ c' = fl_cth c) ∧ fl_Rn fl_C 265 23 [some (.ref 1048608), some (.ref 0), some (.ref 259), some (.ref 284), some (.int (Int32.ofNat i))] [] h = fl_Rn fl_C 265 23 [some (.ref 1048608), some (.ref 0), some (.ref 259), some (.ref 284), some (.int (Int32.ofNat (i + 3)))] [] h' ∧ fl_Inv k0 c' h' ∧ fl_st k0 i0 h' := by
  obtain ⟨o, o32, ho⟩ := fw_and31 (xs i)
  by_cases o30 : 30 ≤ o
  · exact ⟨h, c, Or.inl rfl, fw_none kx ix hL I hs hi o30 o32 ho, I, hs⟩
  · rcases (show o = 0 ∨ o = 1 ∨ o = 2 ∨ o = 3 ∨ o = 4 ∨ o = 5 ∨ o = 6 ∨ o = 7 ∨ o = 8 ∨ o = 9 ∨ o = 10 ∨ o = 11 ∨ o = 12 ∨ o = 13 ∨ o = 14 ∨ o = 15 ∨ o = 16 ∨ o = 17 ∨ o = 18 ∨ o = 19 ∨ o = 20 ∨ o = 21 ∨ o = 22 ∨ o = 23 ∨ o = 24 ∨ o = 25 ∨ o = 26 ∨ o = 27 ∨ o = 28 ∨ o = 29 by omega) with e | e | e | e | e | e | e | e | e | e | e | e | e | e | e | e | e | e | e | e | e | e | e | e | e | e | e | e | e | e <;> subst e
    · obtain ⟨h', e, J, s⟩ := fw_sign sk kx ix hL c2 I hs hi ho
      exact ⟨h', c, Or.inl rfl, e, J, s⟩
    · obtain ⟨h', e, J, s⟩ := fw_end sk kx ix hL c2 I hs hi ho
      exact ⟨h', c, Or.inl rfl, e, J, s⟩
    · obtain ⟨h', e, J, s⟩ := fw_net sk kx ix hL c2 I hs hi ho
      exact ⟨h', c, Or.inl rfl, e, J, s⟩
    · obtain ⟨h', e, J, s⟩ := fw_cause sk kx ix hL c2 I hs hi ho
      exact ⟨h', c, Or.inl rfl, e, J, s⟩
    · exact fw_line sk kx ix hL c2 I hs hi ho
    · exact fw_pin sk kx ix hL c2 I hs hi ho
    · obtain ⟨h', e, J, s⟩ := fw_applies sk kx ix hL c2 I hs hi ho
      exact ⟨h', c, Or.inl rfl, e, J, s⟩
    · obtain ⟨h', e, J, s⟩ := fw_would sk kx ix hL c2 I hs hi ho
      exact ⟨h', c, Or.inl rfl, e, J, s⟩
    · obtain ⟨h', e, J, s⟩ := fw_begins sk kx ix hL c2 I hs hi ho
      exact ⟨h', c, Or.inl rfl, e, J, s⟩
    · obtain ⟨h', e, J, s⟩ := fw_drops sk kx ix hL c2 I hs hi ho
      exact ⟨h', c, Or.inl rfl, e, J, s⟩
    · obtain ⟨h', e, J, s⟩ := fw_value sk kx ix hL c2 I hs hi ho
      exact ⟨h', c, Or.inl rfl, e, J, s⟩
    · obtain ⟨h', e, J, s⟩ := fw_faulty sk kx ix hL c2 I hs hi ho
      exact ⟨h', c, Or.inl rfl, e, J, s⟩
    · obtain ⟨h', e, J, s⟩ := fw_holds sk kx ix hL c2 I hs hi ho
      exact ⟨h', c, Or.inl rfl, e, J, s⟩
    · obtain ⟨h', e, J, s⟩ := fw_detected sk kx ix hL c2 I hs hi ho
      exact ⟨h', c, Or.inl rfl, e, J, s⟩
    · obtain ⟨h', e, J, s⟩ := fw_when sk kx ix hL c2 I hs hi ho
      exact ⟨h', c, Or.inl rfl, e, J, s⟩
    · obtain ⟨h', e, J, s⟩ := fw_sample sk kx ix hL c2 I hs hi ho
      exact ⟨h', c, Or.inl rfl, e, J, s⟩
    · obtain ⟨h', e, J, s⟩ := fw_critical sk kx ix hL c2 I hs hi ho
      exact ⟨h', c, Or.inl rfl, e, J, s⟩
    · obtain ⟨h', e, J, s⟩ := fw_classes sk kx ix hL c2 I hs hi ho
      exact ⟨h', c, Or.inl rfl, e, J, s⟩
    · obtain ⟨h', e, J, s⟩ := fw_classOf sk kx ix hL c2 I hs hi ho
      exact ⟨h', c, Or.inl rfl, e, J, s⟩
    · obtain ⟨h', e, J, s⟩ := fw_tests sk kx ix hL c2 I hs hi ho
      exact ⟨h', c, Or.inl rfl, e, J, s⟩
    · obtain ⟨h', e, J, s⟩ := fw_hidden sk kx ix hL c2 I hs hi ho
      exact ⟨h', c, Or.inl rfl, e, J, s⟩
    · obtain ⟨h', e, J, s⟩ := fw_needless sk kx ix hL c2 I hs hi ho
      exact ⟨h', c, Or.inl rfl, e, J, s⟩
    · obtain ⟨h', e, J, s⟩ := fw_shorter sk kx ix hL c2 I hs hi ho
      exact ⟨h', c, Or.inl rfl, e, J, s⟩
    · obtain ⟨h', e, J, s⟩ := fw_blames sk kx ix hL c2 I hs hi ho
      exact ⟨h', c, Or.inl rfl, e, J, s⟩
    · obtain ⟨h', e, J, s⟩ := fw_parts sk kx ix hL c2 I hs hi ho
      exact ⟨h', c, Or.inl rfl, e, J, s⟩
    · obtain ⟨h', e, J, s⟩ := fw_drawn sk kx ix hL c2 I hs hi ho
      exact ⟨h', c, Or.inl rfl, e, J, s⟩
    · obtain ⟨h', e, J, s⟩ := fw_keep sk kx ix hL c2 I hs hi ho
      exact ⟨h', c, Or.inl rfl, e, J, s⟩
    · obtain ⟨h', e, J, s⟩ := fw_again sk kx ix hL c2 I hs hi ho
      exact ⟨h', c, Or.inl rfl, e, J, s⟩
    · obtain ⟨h', e, J, s⟩ := fw_count sk kx ix hL c2 I hs hi ho
      exact ⟨h', c, Or.inl rfl, e, J, s⟩
    · exact fw_row sk kx ix hL c2 I hs hi ho
theorem fw_loop (sk : fl_sk k0 i0) (kx : k0 1048608 = (6, L)) (ix : i0 1048608 = xs) (hL : L < 9000) : ∀ (n i : Nat) (h : fl_H) (c : Nat × Nat × Nat × Bool), fl_Inv k0 c h → fl_st k0 i0 h → c.1 ≤ 285 → L < i + 3 * n + 3 → i ≤ L → ∃ h' c', fl_Rn fl_C 265 23 [some (.ref 1048608), some (.ref 0), some (.ref 259), some (.ref 284), some (.int (Int32.ofNat i))] [] h = some (some (some (.int (Int32.ofNat 1))), h') ∧ fl_Inv k0 c' h' ∧ c'.2.1 ≤ c.2.1 + n ∧ c'.2.2.1 ≤ c.2.2.1 + 6 * n
  | n, i, h, c, I, hs, c2, hn, hi => by
    by_cases q : i + 3 ≤ L
    · cases n with
      | zero => omega
      | succ n =>
        obtain ⟨h1, c1, hc, e, J, s⟩ := fw_step sk kx ix (by omega) c2 I hs q
        have c3 : c1.1 = c.1 ∧ c1.2.1 ≤ c.2.1 + 1 ∧ c1.2.2.1 ≤ c.2.2.1 + 6 := by
          rcases hc with z | z <;> rw [z]
          · exact ⟨rfl, by omega, by omega⟩
          · exact ⟨rfl, Nat.le_refl _, Nat.le_refl _⟩
        obtain ⟨h2, c', e2, K, k1, k2⟩ := fw_loop sk kx ix hL n (i + 3) h1 c1 J s (by omega) (by omega) q
        exact ⟨h2, c', e.trans e2, K, by omega, by omega⟩
    · refine ⟨h, c, ?_, I, by omega, by omega⟩
      by_cases h3 : 3 ≤ L
      · exact fw_over kx (by omega) I (by omega) h3 (by omega)
      · have K0 : fl_k h 1048608 = (6, L) := by rw [I.1.1]; unfold fl_KK; rw [if_neg (by omega)]; exact kx
        have z : ∀ L, L < 3 → ∀ i, i < 3 → (Int32.ofNat L - Int32.ofNat 3 < Int32.ofNat i) := by decide
        have z' := eq_true (z L (by omega) i (by omega))
        clear I hs kx ix sk z
        rw [fbC_265_23]
        simp only [K0, fl_lit, z', decide_true, if_true]
end
