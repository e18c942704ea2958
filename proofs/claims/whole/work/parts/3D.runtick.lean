/-! A TICK of a run keeps what is kept of it, whole -/
section
variable {k0 : Nat → Nat × Nat} {h : fl_H} {g : Nat → Nat} {r pt : Nat} {s : Int64}
theorem fl_h4_rn (w : fl_wf g) (d : fl_rn h r g s) (hn : g 76 < 24) (hp : pt < 256) (hp2 : ∀ k, k < g 1 → pt / 4 ^ k % 4 ≤ 2) : fl_rn (fl_h4 h r g pt) r (fl_t1 g pt) s := by
  have w1 := w.1
  have w7 : g 77 ≤ 1 := by omega
  have w0 : g 0 ≤ 12 := by omega
  have w2 : g 2 ≤ 20 := by omega
  have lt : ∀ j, j < 76 → fl_t1 g pt j = g j := fun j hj => fl_t1_lt hj
  refine ⟨?_, ⟨?_, ?_⟩, ⟨?_, ?_, ?_⟩, ?_, ?_, ?_, ?_⟩
  · refine fl_net_cg w lt (fl_net_fr d.1 (fl_h4_io (by omega)) (fun b h1 h2 => ?_))
    rw [fl_h4_lo (by omega) (by omega) (by omega) (by omega), fl_h2_lo (by omega) (by omega) (by omega), fl_h1_lo (by omega)]
  · rw [fl_h4_i, fl_up_self, fl_t1_76]
  · rw [fl_h4_i, fl_up_ne (by omega), fl_t1_77]; exact d.2.1.2
  · have e5 : fl_l (fl_h4 h r g pt) r 5 = fl_l h r 5 ||| fl_B (fl_fr g pt) := by
      rw [fl_h4_r]
      split
      · rw [fl_up_self]
      · rw [fl_up_ne (by omega), fl_up_self]
    rw [e5, d.2.2.1.1, fl_B_or, lt 0 (by omega), lt 2 (by omega), fl_t1_76]
    refine fl_B_congr fun c _ => ?_
    rw [fl_anys1 w hn]
    have hds := fl_dr_sh (g := g) (f := c) (n := g 76) (ps := fl_ps g)
    unfold fl_fr fl_sw fl_lx
    generalize decide (c < 2 * (g 0 + g 2)) = b1
    generalize fl_any (fl_dr g c (fl_ps g)) (g 76) = b2 at hds ⊢
    generalize fl_any (fl_shn g c (fl_ps g)) (g 76) = b4 at hds ⊢
    generalize fl_shn (fl_t1 g pt) c (fl_ps (fl_t1 g pt)) (g 76) = b3
    cases b1 <;> cases b2 <;> cases b3 <;> cases b4 <;> simp at hds ⊢
  · have e6 : fl_l (fl_h4 h r g pt) r 6 = if g 77 = 0 then fl_l h r 6 else fl_l h r 6 ||| fl_B (fl_sw g pt) := by
      rw [fl_h4_r]
      split
      · rw [fl_up_ne (by omega)]
      · rw [fl_up_self]
    rw [e6, d.2.2.1.2.1, lt 0 (by omega), lt 2 (by omega), fl_t1_76]
    by_cases c0 : g 77 = 0
    · rw [if_pos c0]
      refine fl_B_congr fun c _ => ?_
      rw [fl_anyd1 w hn, c0]
      simp
    · rw [if_neg c0, fl_B_or]
      refine fl_B_congr fun c _ => ?_
      rw [fl_anyd1 w hn, show g 77 = 1 by omega]
      unfold fl_sw fl_lx
      generalize decide (c < 2 * (g 0 + g 2)) = b1
      generalize fl_any (fl_dr g c (fl_ps g)) (g 76) = b2
      generalize fl_shn (fl_t1 g pt) c (fl_ps (fl_t1 g pt)) (g 76) = b3
      cases b1 <;> cases b2 <;> cases b3 <;> simp
  · rw [fl_h4_r]
    split
    · rw [fl_up_ne (by omega), lt 0 (by omega), lt 2 (by omega)]; exact d.2.2.1.2.2
    · rw [fl_up_ne (by omega), fl_up_ne (by omega), lt 0 (by omega), lt 2 (by omega)]; exact d.2.2.1.2.2
  · rw [fl_t1_76, fl_h4_34]
    intro t ht
    by_cases c : t = g 76
    · subst c
      rw [fl_up_self, fl_t1_pt]
    · rw [fl_up_ne c, fl_t1_ps (by omega) hn]
      exact d.2.2.2.1 t (by omega)
  · rw [lt 0 (by omega), lt 2 (by omega), fl_t1_76]
    intro f hf ha
    rw [fl_h4_36, fl_h4_38]
    have f64 : f < 64 := by omega
    rcases Bool.eq_false_or_eq_true (fl_any (fl_shn g f (fl_ps g)) (g 76)) with e | e
    · have sp := fl_frst_sp e
      have e' : fl_any (fl_shn (fl_t1 g pt) f (fl_ps (fl_t1 g pt))) (g 76) = true := by rw [fl_t1_any w hn]; exact e
      have fe : fl_frst (fl_shn (fl_t1 g pt) f (fl_ps (fl_t1 g pt))) (g 76) = fl_frst (fl_shn g f (fl_ps g)) (g 76) := fl_frst_congr fun i hi => fl_t1_shn w hn hi
      have kp := (fl_keep (q := fl_shn (fl_t1 g pt) f (fl_ps (fl_t1 g pt))) (t := g 76) (Or.inr e')).2.2 e'
      have nf : fl_fr g pt f = false := by unfold fl_fr; rw [e]; simp
      have q1 : ∀ A old : Nat → Int64, fl_qq (fl_fr g pt) A old 64 f = old f := fun A old => if_neg (fun z => by rw [nf] at z; exact absurd z.2 (by decide))
      rw [q1, q1, kp, fe, fl_shl1 w hn sp.1]
      exact d.2.2.2.2.1 f hf e
    · have e' : fl_any (fl_shn (fl_t1 g pt) f (fl_ps (fl_t1 g pt))) (g 76) = false := by rw [fl_t1_any w hn]; exact e
      have sn : fl_shn (fl_t1 g pt) f (fl_ps (fl_t1 g pt)) (g 76) = true := by
        rw [fl_anys1 w hn, e, Bool.false_or] at ha
        exact ha
      have fa := fl_frst_at e' sn (show g 76 < g 76 + 1 by omega)
      have nd : fl_any (fl_dr g f (fl_ps g)) (g 76) = false := by
        rcases Bool.eq_false_or_eq_true (fl_any (fl_dr g f (fl_ps g)) (g 76)) with z | z
        · rw [fl_dr_sh z] at e; cases e
        · exact z
      have lx : fl_lx g f = true := by unfold fl_lx; rw [decide_eq_true hf, nd]; rfl
      have nf : fl_fr g pt f = true := by unfold fl_fr fl_sw; rw [lx, sn, e]; rfl
      have q1 : ∀ A old : Nat → Int64, fl_qq (fl_fr g pt) A old 64 f = A f := fun A old => if_pos ⟨f64, nf⟩
      rw [q1, q1, fa.2, d.2.1.1, fl_i64 (by omega), fl_h1_os w hn hp hp2 f64 lx]
      exact ⟨rfl, rfl⟩
  · rw [fl_t1_76, lt 0 (by omega), Nat.add_sub_cancel]
    intro _ k hk
    refine ⟨⟨?_, ?_⟩, ?_, ?_⟩
    · rw [fl_h4_lo (by omega) (by omega) (by omega) (by omega), fl_h2_lo (by omega) (by omega) (by omega), fl_h1_g1 hk w hn]
    · rw [fl_h4_lo (by omega) (by omega) (by omega) (by omega), fl_h2_lo (by omega) (by omega) (by omega), fl_h1_g0 hk w hn]
    · rw [fl_h4_lo (by omega) (by omega) (by omega) (by omega), fl_h2_lo (by omega) (by omega) (by omega), fl_h1_b1 hk]
      exact fl_B_congr fun c _ => by rw [fl_cvn1 w hn]
    · rw [fl_h4_lo (by omega) (by omega) (by omega) (by omega), fl_h2_lo (by omega) (by omega) (by omega), fl_h1_b0 hk]
      exact fl_B_congr fun c _ => by rw [fl_cvn1 w hn]
  · rw [fl_t1_76, lt 0 (by omega)]
    intro k hk h8
    rw [lt (4 + k) (by omega)] at h8
    have h6 := fl_h4_h (h := h) (r := r) (pt := pt) w hn (z := 6) (Or.inl rfl) hk h8
    have h8' := fl_h4_h (h := h) (r := r) (pt := pt) w hn (z := 8) (Or.inr rfl) hk h8
    exact ⟨⟨h6.1, h8'.1⟩, h6.2, h8'.2⟩
end
