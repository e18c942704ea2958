/-! THE CODE TABLES hold: all methods -/
def fl_al1 {α : Type} (P : Nat → α → Prop) : Nat → List (Option α) → Prop
  | _, [] => True
  | k, none :: l => fl_al1 P (k + 1) l
  | k, some x :: l => P k x ∧ fl_al1 P (k + 1) l
def fl_al2 {α : Type} (P : Nat → α → Prop) : Nat → List (List (Option α)) → Prop
  | _, [] => True
  | k, l :: r => l.length ≤ 8 ∧ fl_al1 P (8 * k) l ∧ fl_al2 P (k + 1) r
def fl_al3 {α : Type} (P : Nat → α → Prop) : Nat → List (List (List (Option α))) → Prop
  | _, [] => True
  | k, l :: r => l.length ≤ 8 ∧ fl_al2 P (8 * k) l ∧ fl_al3 P (k + 1) r
theorem fl_al1_at {α : Type} {P : Nat → α → Prop} : ∀ (l : List (Option α)) (k i : Nat) (x : α), fl_al1 P k l → fl_nth l none i = some x → i < l.length ∧ P (k + i) x
  | [], _, i, x, _, h => by cases i <;> cases h
  | none :: l, k, 0, x, _, h => by cases h
  | none :: l, k, i + 1, x, hk, h => by
    obtain ⟨h1, h2⟩ := fl_al1_at l (k + 1) i x hk h
    exact ⟨Nat.succ_lt_succ h1, by rw [show k + (i + 1) = k + 1 + i by omega]; exact h2⟩
  | some y :: l, k, 0, x, hk, h => by cases h; exact ⟨Nat.succ_pos _, hk.1⟩
  | some y :: l, k, i + 1, x, hk, h => by
    obtain ⟨h1, h2⟩ := fl_al1_at l (k + 1) i x hk.2 h
    exact ⟨Nat.succ_lt_succ h1, by rw [show k + (i + 1) = k + 1 + i by omega]; exact h2⟩
theorem fl_al2_at {α : Type} {P : Nat → α → Prop} : ∀ (l : List (List (Option α))) (k i j : Nat) (x : α), fl_al2 P k l → fl_nth (fl_nth l [] i) none j = some x → P (8 * (k + i) + j) x
  | [], _, i, j, x, _, h => by cases i <;> cases j <;> cases h
  | l :: r, k, 0, j, x, hk, h => (fl_al1_at l (8 * k) j x hk.2.1 h).2
  | l :: r, k, i + 1, j, x, hk, h => by
    have := fl_al2_at r (k + 1) i j x hk.2.2 h
    rw [show k + (i + 1) = k + 1 + i by omega]; exact this
theorem fl_al3_at {α : Type} {P : Nat → α → Prop} : ∀ (l : List (List (List (Option α)))) (k a i j : Nat) (x : α), fl_al3 P k l → fl_nth (fl_nth (fl_nth l [] a) [] i) none j = some x → P (8 * (8 * (k + a) + i) + j) x
  | [], _, a, i, j, x, _, h => by cases a <;> cases i <;> cases j <;> cases h
  | l :: r, k, 0, i, j, x, hk, h => fl_al2_at l (8 * k) i j x hk.2.1 h
  | l :: r, k, a + 1, i, j, x, hk, h => by
    have := fl_al3_at r (k + 1) a i j x hk.2.2 h
    rw [show k + (a + 1) = k + 1 + a by omega]; exact this
theorem fl_al_n3 {α : Type} {P : Nat → α → Prop} {l : List (List (List (Option α)))} (h : fl_al3 P 0 l) {m : Nat} {x : α} (he : fl_n3 l m = some x) : P m x := by
  have := fl_al3_at l 0 (m / 64) (m / 8 % 8) (m % 8) x h he
  rw [show 8 * (8 * (0 + m / 64) + m / 8 % 8) + m % 8 = m by omega] at this
  exact this
set_option maxRecDepth 100000 in
theorem fl_okall : fl_al3 (fun m l => fl_ok3 m 0 l = true) 0 fl_code := ⟨by decide, ⟨by decide, trivial, by decide, ⟨fl_okc10, fl_okc11, fl_okc12, fl_okc13, fl_okc14, fl_okc15, trivial⟩, by decide, ⟨fl_okc16, fl_okc17, fl_okc18, fl_okc19, fl_okc20, fl_okc21, fl_okc22, fl_okc23, trivial⟩, by decide, ⟨fl_okc24, fl_okc25, fl_okc26, fl_okc27, fl_okc28, fl_okc29, fl_okc30, fl_okc31, trivial⟩, by decide, ⟨fl_okc32, fl_okc33, fl_okc34, fl_okc35, fl_okc36, fl_okc37, fl_okc38, fl_okc39, trivial⟩, by decide, ⟨fl_okc40, fl_okc41, fl_okc42, fl_okc43, fl_okc44, fl_okc45, fl_okc46, fl_okc47, trivial⟩, by decide, ⟨fl_okc48, fl_okc49, fl_okc50, fl_okc51, fl_okc52, fl_okc53, fl_okc54, fl_okc55, trivial⟩, by decide, ⟨fl_okc56, fl_okc57, fl_okc58, fl_okc59, fl_okc60, fl_okc61, fl_okc62, fl_okc63, trivial⟩, trivial⟩, by decide, ⟨by decide, ⟨fl_okc64, fl_okc65, fl_okc66, fl_okc67, fl_okc68, fl_okc69, fl_okc70, fl_okc71, trivial⟩, by decide, ⟨fl_okc72, fl_okc73, fl_okc74, fl_okc75, fl_okc76, fl_okc77, fl_okc78, fl_okc79, trivial⟩, by decide, ⟨fl_okc80, fl_okc81, fl_okc82, fl_okc83, fl_okc84, fl_okc85, fl_okc86, fl_okc87, trivial⟩, by decide, ⟨fl_okc88, fl_okc89, fl_okc90, fl_okc91, fl_okc92, fl_okc93, fl_okc94, fl_okc95, trivial⟩, by decide, ⟨fl_okc96, fl_okc97, fl_okc98, fl_okc99, fl_okc100, fl_okc101, fl_okc102, fl_okc103, trivial⟩, by decide, ⟨fl_okc104, fl_okc105, fl_okc106, fl_okc107, fl_okc108, fl_okc109, fl_okc110, fl_okc111, trivial⟩, by decide, ⟨fl_okc112, fl_okc113, fl_okc114, fl_okc115, fl_okc116, fl_okc117, fl_okc118, fl_okc119, trivial⟩, by decide, ⟨fl_okc120, fl_okc121, fl_okc122, fl_okc123, fl_okc124, fl_okc125, fl_okc126, fl_okc127, trivial⟩, trivial⟩, by decide, ⟨by decide, ⟨fl_okc128, fl_okc129, fl_okc130, fl_okc131, fl_okc132, fl_okc133, fl_okc134, fl_okc135, trivial⟩, by decide, ⟨fl_okc136, fl_okc137, fl_okc138, fl_okc139, fl_okc140, fl_okc141, fl_okc142, fl_okc143, trivial⟩, by decide, ⟨fl_okc144, fl_okc145, fl_okc146, fl_okc147, fl_okc148, fl_okc149, fl_okc150, fl_okc151, trivial⟩, by decide, ⟨fl_okc152, fl_okc153, fl_okc154, fl_okc155, fl_okc156, fl_okc157, fl_okc158, fl_okc159, trivial⟩, by decide, ⟨fl_okc160, fl_okc161, fl_okc162, fl_okc163, fl_okc164, fl_okc165, fl_okc166, fl_okc167, trivial⟩, by decide, ⟨fl_okc168, fl_okc169, fl_okc170, fl_okc171, fl_okc172, fl_okc173, fl_okc174, fl_okc175, trivial⟩, by decide, ⟨fl_okc176, fl_okc177, fl_okc178, fl_okc179, fl_okc180, fl_okc181, fl_okc182, fl_okc183, trivial⟩, by decide, ⟨fl_okc184, fl_okc185, fl_okc186, fl_okc187, fl_okc188, fl_okc189, fl_okc190, fl_okc191, trivial⟩, trivial⟩, by decide, ⟨by decide, ⟨fl_okc192, fl_okc193, fl_okc194, fl_okc195, fl_okc196, fl_okc197, fl_okc198, fl_okc199, trivial⟩, by decide, ⟨fl_okc200, fl_okc201, fl_okc202, fl_okc203, fl_okc204, fl_okc205, fl_okc206, fl_okc207, trivial⟩, by decide, ⟨fl_okc208, fl_okc209, fl_okc210, fl_okc211, fl_okc212, fl_okc213, fl_okc214, fl_okc215, trivial⟩, by decide, ⟨fl_okc216, fl_okc217, fl_okc218, fl_okc219, fl_okc220, fl_okc221, fl_okc222, fl_okc223, trivial⟩, by decide, ⟨fl_okc224, fl_okc225, fl_okc226, fl_okc227, fl_okc228, fl_okc229, fl_okc230, fl_okc231, trivial⟩, by decide, ⟨fl_okc232, fl_okc233, fl_okc234, fl_okc235, fl_okc236, fl_okc237, fl_okc238, fl_okc239, trivial⟩, by decide, ⟨fl_okc240, fl_okc241, fl_okc242, fl_okc243, fl_okc244, fl_okc245, fl_okc246, fl_okc247, trivial⟩, by decide, ⟨fl_okc248, fl_okc249, fl_okc250, fl_okc251, fl_okc252, fl_okc253, fl_okc254, fl_okc255, trivial⟩, trivial⟩, by decide, ⟨by decide, ⟨fl_okc256, fl_okc257, fl_okc258, fl_okc259, fl_okc260, fl_okc261, fl_okc262, fl_okc263, trivial⟩, by decide, ⟨fl_okc264, fl_okc265, trivial⟩, trivial⟩, trivial⟩
theorem fl_C_ok {m pc : Nat} {e : fl_E} (h : fl_C m pc = some e) : fl_ok m pc e = true := by
  unfold fl_C at h
  cases hl : fl_n3 fl_code m with
  | none => rw [hl] at h; cases h
  | some l =>
    rw [hl] at h
    exact fl_ok_n3 (fl_al_n3 fl_okall hl) h
theorem fl_C_no (pc : Nat) : fl_C 9999 pc = none := rfl
