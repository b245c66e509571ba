/-! ===== Laws.value from its start; Street: reads ===== -/
def n_val (steps starts f : Nat → Int32) (size k : Nat) (sk : Nat → Int32) : Int32 × (Nat → Int32) := if starts k < 0 then (nI 0, sk) else n_vl steps f size 401 (starts k).toNatClampNeg 0 sk
abbrev SL (h : am_H) (p size : Nat) (t w : Int32) : Prop := h.2.2 (p + 7) = .inl (1, [.ref (p + 8), .int (nI size), .ref (p + 9), .int t, .ref (p + 10), .int w, .ref (p + 11), .ref (p + 12)])
theorem am_up_self {h : am_H} {a : Nat} {c : am_C} (hc : h.2.2 a = c) : am_up h a c = h := by
  obtain ⟨n, k, f⟩ := h
  simp only [am_up]
  congr 2
  funext j
  by_cases e : j = a
  · subst e; simp [va_up]; exact hc.symm
  · simp [va_up, e]
theorem c_X1_value {h : am_H} {Q : Option Value → am_H → Prop} {p k size : Nat} {t w : Int32} {steps starts f sk : Nat → Int32} (h8 : 8 ≤ p) (hl : SL h p size t w) (hst : h.2.2 (p + 8) = am_ints 400 steps) (hsr : h.2.2 (p + 9) = am_ints 3 starts) (hf : h.2.2 (p + 11) = am_ints 7 f) (hk0 : h.2.2 (p + 12) = am_ints 32 sk) (hk : k < 3) (hsz : size ≤ 400) (hbd : starts k < nI 300000000) (q : Q (some (.int (n_val steps starts f size k sk).1)) (am_up h (p + 12) (am_ints 32 (n_val steps starts f size k sk).2))) : AC am_P 1 22 24 [.ref (p + 7), .int (nI k)] h Q := by
  refine AC.of (ls := [_, _, _, _, _, _, _]) rfl ?_
  unfold SL at hl
  refine aw rfl rfl ?_
  refine aw_lt rfl (fun c1 => absurd c1 (n_neg k (by omega))) (fun c1 => ?_)
  refine aw rfl rfl ?_
  refine aw rfl rfl ?_
  refine aw_getf rfl (by repeat first | assumption | exact hg_eq | refine hg_ne (by first | assumption | omega) ?_) rfl ?_
  refine aw_alen rfl (by repeat first | assumption | exact hg_eq | refine hg_ne (by first | assumption | omega) ?_) rfl ?_
  refine aw_ige rfl (fun c10 => absurd c10 (n_nle (by omega) (by decide))) (fun c10 => ?_)
  refine aw rfl rfl ?_
  refine aw_getf rfl (by repeat first | assumption | exact hg_eq | refine hg_ne (by first | assumption | omega) ?_) rfl ?_
  refine aw rfl rfl ?_
  refine aw_iald (k := k) rfl (by repeat first | assumption | exact hg_eq | refine hg_ne (by first | assumption | omega) ?_) rfl (by omega) (by decide) ?_
  refine aw rfl rfl ?_
  refine aw_ist (ls' := [_, _, _, _, _, _, _]) rfl rfl ?_
  refine aw rfl rfl ?_
  refine aw_ge rfl (fun c25 => ?_) (fun c25 => ?_)
  · refine aw_c (v := nI 0) rfl (by decide) ?_
    refine aw_ist (ls' := [_, _, _, _, _, _, _]) rfl rfl ?_
    refine aw rfl rfl ?_
    refine aw_ist (ls' := [_, _, _, _, _, _, _]) rfl rfl ?_
    exact (by
        have hs0 := nI_of (Int32.not_lt.mpr c25)
        obtain ⟨j, hj, ej⟩ := hs0
        rw [n_val, if_neg (Int32.not_lt.mpr c25), ej, nI_clamp hj] at q
        rw [ej] at hbd ⊢
        have hb2 := (nI_ltI hj (by decide)).mp hbd
        have hl' := l_value (Q := Q) (k := k) (x2 := nI j) h8 hl hst hf hsz 401 j 0 sk none none hb2 (by omega) (by omega) q
        rw [am_up_self hk0] at hl'
        exact hl')
  · refine aw_c (v := nI 0) rfl (by decide) ?_
    exact aw_iret rfl rfl (by rw [n_val, if_pos (Int32.not_le.mp c25), am_up_self hk0] at q; exact q)
/-- a street's data: scalars (0 length, 1 rows, 2 faces, 3 kicks, 4 lives, 5 takes, 6 seed, 7 the laws' size, 8 timed), rows (0 sorts, 1 outcomes, 2 sixths, 3 far, 4 aside, 5 turns, 6 stone, 7 friend, 8 steps, 9 starts) *-/
abbrev Sd : Type := (Nat → Nat) × (Nat → Nat → Int32)
def SA (h : am_H) (p : Nat) (T : Sd) : Prop := h.2.2 p = .inl (7, [.int (nI (T.1 0)), .int (nI (T.1 1)), .ref (p + 1), .int (nI (T.1 2)), .int (nI (T.1 3)), .ref (p + 2), .ref (p + 3), .ref (p + 4), .ref (p + 5), .ref (p + 6), .ref (p + 7), .ref (p + 13), .ref (p + 14), .int (nI (T.1 4)), .int (nI (T.1 5)), .int (nI (T.1 6))]) ∧ h.2.2 (p + 1) = am_ints 32 (T.2 0) ∧ h.2.2 (p + 2) = am_ints 4 (T.2 1) ∧ h.2.2 (p + 3) = am_ints 25 (T.2 2) ∧ h.2.2 (p + 4) = am_ints 25 (T.2 3) ∧ h.2.2 (p + 5) = am_ints 25 (T.2 4) ∧ h.2.2 (p + 6) = am_ints 25 (T.2 5) ∧ (∃ w, h.2.2 (p + 7) = .inl (1, [.ref (p + 8), .int (nI (T.1 7)), .ref (p + 9), .int (nI (T.1 8)), .ref (p + 10), .int w, .ref (p + 11), .ref (p + 12)])) ∧ h.2.2 (p + 8) = am_ints 400 (T.2 8) ∧ h.2.2 (p + 9) = am_ints 3 (T.2 9) ∧ h.2.2 (p + 13) = am_ints 3 (T.2 6) ∧ h.2.2 (p + 14) = am_ints 3 (T.2 7)
/-- the rows that evaluating the laws writes to *-/
def SX (h : am_H) (p : Nat) : Prop := (∃ f, h.2.2 (p + 11) = am_ints 7 f) ∧ ∃ f, h.2.2 (p + 12) = am_ints 32 f
def FX (p : Nat) (h h1 : am_H) : Prop := ∃ f sk, h1 = am_up (am_up h (p + 11) (am_ints 7 f)) (p + 12) (am_ints 32 sk)
theorem FX.get {p q : Nat} {h h1 : am_H} (hx : FX p h h1) (h1' : q ≠ p + 11) (h2' : q ≠ p + 12) : h1.2.2 q = h.2.2 q := by
  obtain ⟨f, sk, rfl⟩ := hx
  exact hg_ne h2' (hg_ne h1' rfl)
theorem FX.sz {p : Nat} {h h1 : am_H} (hx : FX p h h1) : h1.1 = h.1 ∧ h1.2.1 = h.2.1 := by
  obtain ⟨f, sk, rfl⟩ := hx
  exact ⟨rfl, rfl⟩
theorem am_up_comm {h : am_H} {a b : Nat} {c d : am_C} (hab : a ≠ b) : am_up (am_up h a c) b d = am_up (am_up h b d) a c := by
  simp only [am_up]
  congr 2
  funext j
  by_cases e : j = a
  · subst e; simp [va_up, hab]
  · by_cases e2 : j = b
    · subst e2; simp [va_up, e]
    · simp [va_up, e, e2]
theorem FX.trans {p : Nat} {h h1 h2 : am_H} (hx : FX p h h1) (hy : FX p h1 h2) : FX p h h2 := by
  obtain ⟨f, sk, rfl⟩ := hx
  obtain ⟨g, sl, rfl⟩ := hy
  refine ⟨g, sl, ?_⟩
  rw [am_up_comm (h := am_up h (p + 11) (am_ints 7 f)) (show p + 12 ≠ p + 11 by omega), am_up_up, am_up_up]
theorem FX.sx {p : Nat} {h h1 : am_H} (hx : FX p h h1) : SX h1 p := by
  obtain ⟨f, sk, rfl⟩ := hx
  exact ⟨⟨f, hg_ne (by omega) hg_eq⟩, ⟨sk, hg_eq⟩⟩
theorem FX.sa {p o : Nat} {h h1 : am_H} {T : Sd} (hx : FX p h h1) (ho : o = p ∨ o + 15 ≤ p ∨ p + 15 ≤ o) (hS : SA h o T) : SA h1 o T := by
  obtain ⟨s0, s1, s2, s3, s4, s5, s6, ⟨w, s7⟩, s8, s9, s13, s14⟩ := hS
  refine ⟨?_, ?_, ?_, ?_, ?_, ?_, ?_, ⟨w, ?_⟩, ?_, ?_, ?_, ?_⟩ <;> first | (rw [hx.get (by omega) (by omega)]; assumption)

theorem c_X7_sortAt {h : am_H} {Q : Option Value → am_H → Prop} {p : Nat} {T : Sd} (hS : SA h p T) {x y : Int32} (q1 : ∀ a c : Nat, x = nI a → y = nI c → a < 8 → c < 4 → Q (some (.int (T.2 0 (c * 8 + a)))) h) (q0 : (x < 0 ∨ nI 8 ≤ x ∨ y < 0 ∨ nI 4 ≤ y) → Q (some (.int (-1))) h) : AC am_P 0 0 94 [.ref p, .int x, .int y] h Q := by
  refine AC.of (ls := [_, _, _, _]) rfl ?_
  obtain ⟨s0, s1, s2, s3, s4, s5, s6, ⟨w, s7⟩, s8, s9, s13, s14⟩ := hS
  refine aw rfl rfl ?_
  refine aw_lt rfl (fun c1 => ?_) (fun c1 => ?_)
  · refine aw_c (v := nI 0) rfl (by decide) ?_
    refine aw_ist (ls' := [_, _, _, _]) rfl rfl ?_
    refine aw rfl rfl ?_
    refine aw_eq rfl (fun _ => ?_) (fun c => absurd (by decide) c)
    refine aw_c (v := -1) rfl (by decide) ?_
    exact aw_iret rfl rfl (q0 (Or.inl c1))
  · refine aw rfl rfl ?_
    refine aw_c (v := nI 8) rfl (by decide) ?_
    refine aw_ige rfl (fun c7 => ?_) (fun c7 => ?_)
    · refine aw_c (v := nI 0) rfl (by decide) ?_
      refine aw_ist (ls' := [_, _, _, _]) rfl rfl ?_
      refine aw rfl rfl ?_
      refine aw_eq rfl (fun _ => ?_) (fun c => absurd (by decide) c)
      refine aw_c (v := -1) rfl (by decide) ?_
      exact aw_iret rfl rfl (q0 (Or.inr (Or.inl c7)))
    · refine aw rfl rfl ?_
      refine aw_lt rfl (fun c11 => ?_) (fun c11 => ?_)
      · refine aw_c (v := nI 0) rfl (by decide) ?_
        refine aw_ist (ls' := [_, _, _, _]) rfl rfl ?_
        refine aw rfl rfl ?_
        refine aw_eq rfl (fun _ => ?_) (fun c => absurd (by decide) c)
        refine aw_c (v := -1) rfl (by decide) ?_
        exact aw_iret rfl rfl (q0 (Or.inr (Or.inr (Or.inl c11))))
      · refine aw rfl rfl ?_
        refine aw_c (v := nI 4) rfl (by decide) ?_
        refine aw_ige rfl (fun c16 => ?_) (fun c16 => ?_)
        · refine aw_c (v := nI 0) rfl (by decide) ?_
          refine aw_ist (ls' := [_, _, _, _]) rfl rfl ?_
          refine aw rfl rfl ?_
          refine aw_eq rfl (fun _ => ?_) (fun c => absurd (by decide) c)
          refine aw_c (v := -1) rfl (by decide) ?_
          exact aw_iret rfl rfl (q0 (Or.inr (Or.inr (Or.inr c16))))
        · refine aw_c (v := nI 1) rfl (by decide) ?_
          refine aw rfl rfl ?_
          refine aw_ist (ls' := [_, _, _, _]) rfl rfl ?_
          refine aw rfl rfl ?_
          refine aw_eq rfl (fun c => absurd c (by decide)) (fun _ => ?_)
          obtain ⟨a, ha, ea, -⟩ := pk_mu c1 c7 (by decide)
          obtain ⟨c, hc, ec, -⟩ := pk_mu c11 c16 (by decide)
          subst ea
          subst ec
          refine aw rfl rfl ?_
          refine aw_getf rfl (by repeat first | assumption | exact hg_eq | refine hg_ne (by first | assumption | omega) ?_) rfl ?_
          refine aw rfl rfl ?_
          refine aw_c (v := nI 8) rfl (by decide) ?_
          refine aw rfl rfl ?_
          refine aw rfl rfl ?_
          refine aw rfl rfl ?_
          refine aw_iald (k := c * 8 + a) rfl (by repeat first | assumption | exact hg_eq | refine hg_ne (by first | assumption | omega) ?_) (by rw [pk_mul, nI_add]) (by omega) (by decide) ?_
          refine aw rfl rfl ?_
          exact aw_iret rfl rfl (q1 a c rfl rfl ha hc)
theorem c_X7_sortOf {h : am_H} {Q : Option Value → am_H → Prop} {p : Nat} {T : Sd} (hS : SA h p T) {s : Nat} (hs : s < 32) (q : Q (some (.int (T.2 0 s))) h) : AC am_P 0 0 88 [.ref p, .int (nI s)] h Q := by
  refine AC.of (ls := [_, _]) rfl ?_
  obtain ⟨s0, s1, s2, s3, s4, s5, s6, ⟨w, s7⟩, s8, s9, s13, s14⟩ := hS
  refine aw rfl rfl ?_
  refine aw_lt rfl (fun c1 => absurd c1 (n_neg s (by omega))) (fun c1 => ?_)
  refine aw rfl rfl ?_
  refine aw_c (v := nI 32) rfl (by decide) ?_
  refine aw_ige rfl (fun c7 => absurd c7 (n_nle (by omega) (by decide))) (fun c7 => ?_)
  refine aw rfl rfl ?_
  refine aw_getf rfl (by repeat first | assumption | exact hg_eq | refine hg_ne (by first | assumption | omega) ?_) rfl ?_
  refine aw rfl rfl ?_
  refine aw_iald (k := s) rfl (by repeat first | assumption | exact hg_eq | refine hg_ne (by first | assumption | omega) ?_) rfl hs (by decide) ?_
  refine aw rfl rfl ?_
  exact aw_iret rfl rfl q
theorem c_X7_canLie {h : am_H} {Q : Option Value → am_H → Prop} {p : Nat} {T : Sd} (hS : SA h p T) {s : Nat} (hs : s < 32) (q1 : ¬ T.2 0 s = -1 → ¬ T.2 0 s = nI 4 → ¬ T.2 0 s = nI 5 → Q (some (.int (nI 1))) h) (q0 : (T.2 0 s = -1 ∨ T.2 0 s = nI 4 ∨ T.2 0 s = nI 5) → Q (some (.int (nI 0))) h) : AC am_P 1 21 89 [.ref p, .int (nI s)] h Q := by
  refine AC.of (ls := [_, _, _]) rfl ?_
  have s0 := hS.1
  refine aw rfl rfl ?_
  refine aw rfl rfl ?_
  refine aw_cv (d1 := 0) (L1 := 0) rfl rfl (by repeat first | assumption | exact hg_eq | refine hg_ne (by first | assumption | omega) ?_) rfl rfl (by decide) (by decide) (Nat.le_of_ble_eq_true rfl) (c_X7_sortOf hS hs ?_)
  refine aw_ist (ls' := [_, _, _]) rfl rfl ?_
  refine aw rfl rfl ?_
  refine aw_c (v := -1) rfl (by decide) ?_
  refine aw_ieq rfl (fun c8 => ?_) (fun c8 => ?_)
  · refine aw_c (v := nI 0) rfl (by decide) ?_
    exact aw_iret rfl rfl (q0 (Or.inl c8))
  · refine aw rfl rfl ?_
    refine aw_c (v := nI 4) rfl (by decide) ?_
    refine aw_ieq rfl (fun c13 => ?_) (fun c13 => ?_)
    · refine aw_c (v := nI 0) rfl (by decide) ?_
      exact aw_iret rfl rfl (q0 (Or.inr (Or.inl c13)))
    · refine aw rfl rfl ?_
      refine aw_c (v := nI 5) rfl (by decide) ?_
      refine aw_ieq rfl (fun c18 => ?_) (fun c18 => ?_)
      · refine aw_c (v := nI 0) rfl (by decide) ?_
        exact aw_iret rfl rfl (q0 (Or.inr (Or.inr c18)))
      · refine aw_c (v := nI 1) rfl (by decide) ?_
        refine aw rfl rfl ?_
        exact aw_iret rfl rfl (q1 c8 c13 c18)
theorem c_X7_isHomeLie {h : am_H} {Q : Option Value → am_H → Prop} {p : Nat} {T : Sd} (hS : SA h p T) {l : Nat} (hl : l < 96) (q1 : T.2 0 (l / 3) = nI 6 → Q (some (.int (nI 1))) h) (q0 : ¬ T.2 0 (l / 3) = nI 6 → Q (some (.int (nI 0))) h) : AC am_P 1 21 90 [.ref p, .int (nI l)] h Q := by
  refine AC.of (ls := [_, _]) rfl ?_
  have s0 := hS.1
  refine aw rfl rfl ?_
  refine aw rfl rfl ?_
  refine aw_c (v := nI 3) rfl (by decide) ?_
  refine aw_idiv rfl (by decide) ?_
  rw [pk_div (by omega) (by decide) (by decide)]
  refine aw_cv (d1 := 0) (L1 := 0) rfl rfl (by repeat first | assumption | exact hg_eq | refine hg_ne (by first | assumption | omega) ?_) rfl rfl (by decide) (by decide) (Nat.le_of_ble_eq_true rfl) (c_X7_sortOf hS (by omega) ?_)
  refine aw_c (v := nI 6) rfl (by decide) ?_
  refine aw_ine rfl (fun c9 => ?_) (fun c9 => ?_)
  · refine aw_c (v := nI 0) rfl (by decide) ?_
    exact aw_iret rfl rfl (q0 c9)
  · refine aw_c (v := nI 1) rfl (by decide) ?_
    refine aw rfl rfl ?_
    exact aw_iret rfl rfl (q1 c9)
theorem c_X7_hasKick {h : am_H} {Q : Option Value → am_H → Prop} {p : Nat} {T : Sd} (hS : SA h p T) {x : Int32} (hk : T.1 3 < 2147483648) (q1 : ∀ k : Nat, x = nI k → k < T.1 3 → Q (some (.int (nI 1))) h) (q0 : (x < 0 ∨ nI (T.1 3) ≤ x) → Q (some (.int (nI 0))) h) : AC am_P 0 0 96 [.ref p, .int x] h Q := by
  refine AC.of (ls := [_, _]) rfl ?_
  obtain ⟨s0, s1, s2, s3, s4, s5, s6, ⟨w, s7⟩, s8, s9, s13, s14⟩ := hS
  refine aw rfl rfl ?_
  refine aw_lt rfl (fun c1 => ?_) (fun c1 => ?_)
  · refine aw_c (v := nI 0) rfl (by decide) ?_
    exact aw_iret rfl rfl (q0 (Or.inl c1))
  · refine aw rfl rfl ?_
    refine aw rfl rfl ?_
    refine aw_getf rfl (by repeat first | assumption | exact hg_eq | refine hg_ne (by first | assumption | omega) ?_) rfl ?_
    refine aw_ige rfl (fun c9 => ?_) (fun c9 => ?_)
    · refine aw_c (v := nI 0) rfl (by decide) ?_
      exact aw_iret rfl rfl (q0 (Or.inr c9))
    · refine aw_c (v := nI 1) rfl (by decide) ?_
      refine aw rfl rfl ?_
      exact aw_iret rfl rfl (by obtain ⟨j, hj, ej, -⟩ := pk_mu c1 c9 hk; exact q1 j ej hj)
theorem c_X7_hasOutcome {h : am_H} {Q : Option Value → am_H → Prop} {p : Nat} {T : Sd} (hS : SA h p T) {x y : Int32} (hk : T.1 3 ≤ 4) (q1 : ∀ k : Nat, x = nI k → k < T.1 3 → ¬ y < 0 → ¬ T.2 1 k ≤ y → Q (some (.int (nI 1))) h) (q0 : (x < 0 ∨ nI (T.1 3) ≤ x ∨ y < 0 ∨ (∃ k : Nat, x = nI k ∧ k < T.1 3 ∧ T.2 1 k ≤ y)) → Q (some (.int (nI 0))) h) : AC am_P 0 0 105 [.ref p, .int x, .int y] h Q := by
  refine AC.of (ls := [_, _, _]) rfl ?_
  obtain ⟨s0, s1, s2, s3, s4, s5, s6, ⟨w, s7⟩, s8, s9, s13, s14⟩ := hS
  refine aw rfl rfl ?_
  refine aw_lt rfl (fun c1 => ?_) (fun c1 => ?_)
  · refine aw_c (v := nI 0) rfl (by decide) ?_
    exact aw_iret rfl rfl (q0 (Or.inl c1))
  · refine aw rfl rfl ?_
    refine aw rfl rfl ?_
    refine aw_getf rfl (by repeat first | assumption | exact hg_eq | refine hg_ne (by first | assumption | omega) ?_) rfl ?_
    refine aw_ige rfl (fun c9 => ?_) (fun c9 => ?_)
    · refine aw_c (v := nI 0) rfl (by decide) ?_
      exact aw_iret rfl rfl (q0 (Or.inr (Or.inl c9)))
    · refine aw rfl rfl ?_
      refine aw_lt rfl (fun c13 => ?_) (fun c13 => ?_)
      · refine aw_c (v := nI 0) rfl (by decide) ?_
        exact aw_iret rfl rfl (q0 (Or.inr (Or.inr (Or.inl c13))))
      · obtain ⟨j, hj, ej, -⟩ := pk_mu c1 c9 (by omega)
        subst ej
        refine aw rfl rfl ?_
        refine aw rfl rfl ?_
        refine aw_getf rfl (by repeat first | assumption | exact hg_eq | refine hg_ne (by first | assumption | omega) ?_) rfl ?_
        refine aw rfl rfl ?_
        refine aw_iald (k := j) rfl (by repeat first | assumption | exact hg_eq | refine hg_ne (by first | assumption | omega) ?_) rfl (by omega) (by decide) ?_
        refine aw_ige rfl (fun c23 => ?_) (fun c23 => ?_)
        · refine aw_c (v := nI 0) rfl (by decide) ?_
          exact aw_iret rfl rfl (q0 (Or.inr (Or.inr (Or.inr ⟨j, rfl, hj, c23⟩))))
        · refine aw_c (v := nI 1) rfl (by decide) ?_
          refine aw rfl rfl ?_
          exact aw_iret rfl rfl (q1 j rfl hj c13 c23)
def n_ck (T : Sd) (s k : Nat) : Prop := ¬ T.2 0 s = -1 ∧ (T.2 0 s < nI 3 ∨ (T.2 0 s = nI 3 ∧ T.2 1 k = nI 1))
theorem c_X7_canKickFrom {h : am_H} {Q : Option Value → am_H → Prop} {p : Nat} {T : Sd} (hS : SA h p T) {s k : Nat} (hs : s < 32) (hk : k < T.1 3) (hk4 : T.1 3 ≤ 4) (q1 : n_ck T s k → Q (some (.int (nI 1))) h) (q0 : ¬ n_ck T s k → Q (some (.int (nI 0))) h) : AC am_P 0 0 97 [.ref p, .int (nI s), .int (nI k)] h Q := by
  refine AC.of (ls := [_, _, _]) rfl ?_
  obtain ⟨s0, s1, s2, s3, s4, s5, s6, ⟨w, s7⟩, s8, s9, s13, s14⟩ := hS
  unfold n_ck at q1 q0
  refine aw rfl rfl ?_
  refine aw_lt rfl (fun c1 => absurd c1 (n_neg k (by omega))) (fun c1 => ?_)
  refine aw rfl rfl ?_
  refine aw rfl rfl ?_
  refine aw_getf rfl (by repeat first | assumption | exact hg_eq | refine hg_ne (by first | assumption | omega) ?_) rfl ?_
  refine aw_ige rfl (fun c9 => absurd c9 (n_nle hk (by omega))) (fun c9 => ?_)
  refine aw rfl rfl ?_
  refine aw_lt rfl (fun c13 => absurd c13 (n_neg s (by omega))) (fun c13 => ?_)
  refine aw rfl rfl ?_
  refine aw_c (v := nI 32) rfl (by decide) ?_
  refine aw_ige rfl (fun c19 => absurd c19 (n_nle hs (by decide))) (fun c19 => ?_)
  refine aw rfl rfl ?_
  refine aw_getf rfl (by repeat first | assumption | exact hg_eq | refine hg_ne (by first | assumption | omega) ?_) rfl ?_
  refine aw rfl rfl ?_
  refine aw_iald (k := s) rfl (by repeat first | assumption | exact hg_eq | refine hg_ne (by first | assumption | omega) ?_) rfl hs (by decide) ?_
  refine aw_c (v := -1) rfl (by decide) ?_
  refine aw_ine rfl (fun c29 => ?_) (fun c29 => ?_)
  · refine aw rfl rfl ?_
    refine aw_getf rfl (by repeat first | assumption | exact hg_eq | refine hg_ne (by first | assumption | omega) ?_) rfl ?_
    refine aw rfl rfl ?_
    refine aw_iald (k := s) rfl (by repeat first | assumption | exact hg_eq | refine hg_ne (by first | assumption | omega) ?_) rfl hs (by decide) ?_
    refine aw_c (v := nI 3) rfl (by decide) ?_
    refine aw_ilt rfl (fun c41 => ?_) (fun c41 => ?_)
    · refine aw_c (v := nI 1) rfl (by decide) ?_
      refine aw rfl rfl ?_
      exact aw_iret rfl rfl (q1 ⟨c29, Or.inl c41⟩)
    · refine aw rfl rfl ?_
      refine aw_getf rfl (by repeat first | assumption | exact hg_eq | refine hg_ne (by first | assumption | omega) ?_) rfl ?_
      refine aw rfl rfl ?_
      refine aw_iald (k := s) rfl (by repeat first | assumption | exact hg_eq | refine hg_ne (by first | assumption | omega) ?_) rfl hs (by decide) ?_
      refine aw_c (v := nI 3) rfl (by decide) ?_
      refine aw_ine rfl (fun c51 => ?_) (fun c51 => ?_)
      · refine aw_c (v := nI 0) rfl (by decide) ?_
        exact aw_iret rfl rfl (q0 (fun z => z.2.elim c41 (fun z => c51 z.1)))
      · refine aw rfl rfl ?_
        refine aw_getf rfl (by repeat first | assumption | exact hg_eq | refine hg_ne (by first | assumption | omega) ?_) rfl ?_
        refine aw rfl rfl ?_
        refine aw_iald (k := k) rfl (by repeat first | assumption | exact hg_eq | refine hg_ne (by first | assumption | omega) ?_) rfl (by omega) (by decide) ?_
        refine aw_c (v := nI 1) rfl (by decide) ?_
        refine aw_ine rfl (fun c61 => ?_) (fun c61 => ?_)
        · refine aw_c (v := nI 0) rfl (by decide) ?_
          exact aw_iret rfl rfl (q0 (fun z => z.2.elim c41 (fun z => c61 z.2)))
        · refine aw_c (v := nI 1) rfl (by decide) ?_
          refine aw rfl rfl ?_
          exact aw_iret rfl rfl (q1 ⟨c29, Or.inr ⟨c51, c61⟩⟩)
  · refine aw_c (v := nI 0) rfl (by decide) ?_
    exact aw_iret rfl rfl (q0 (fun z => z.1 c29))
theorem c_X7_canDoFrom {h : am_H} {Q : Option Value → am_H → Prop} {p : Nat} {T : Sd} (hS : SA h p T) {s k : Nat} (hs : s < 32) (hk : k ≤ T.1 3) (hk4 : T.1 3 ≤ 4) (q1 : (k = T.1 3 ∨ n_ck T s k) → Q (some (.int (nI 1))) h) (q0 : k < T.1 3 → ¬ n_ck T s k → Q (some (.int (nI 0))) h) : AC am_P 1 22 106 [.ref p, .int (nI s), .int (nI k)] h Q := by
  refine AC.of (ls := [_, _, _]) rfl ?_
  have s0 := hS.1
  refine aw rfl rfl ?_
  refine aw rfl rfl ?_
  refine aw_getf rfl (by repeat first | assumption | exact hg_eq | refine hg_ne (by first | assumption | omega) ?_) rfl ?_
  refine aw_ieq rfl (fun c5 => ?_) (fun c5 => ?_)
  · refine aw_c (v := nI 1) rfl (by decide) ?_
    refine aw rfl rfl ?_
    exact aw_iret rfl rfl (q1 (Or.inl ((nI_eq (by omega) (by omega)).mp c5)))
  · have hk2 : k < T.1 3 := Nat.lt_of_le_of_ne hk (fun z => c5 (by rw [z]))
    refine aw rfl rfl ?_
    refine aw rfl rfl ?_
    refine aw rfl rfl ?_
    refine aw_cv (d1 := 0) (L1 := 0) rfl rfl (by repeat first | assumption | exact hg_eq | refine hg_ne (by first | assumption | omega) ?_) rfl rfl (by decide) (by decide) (Nat.le_of_ble_eq_true rfl) (c_X7_canKickFrom hS hs hk2 hk4 (fun g => ?_) (fun g => ?_))
    · refine aw_eq rfl (fun c => absurd c (by decide)) (fun _ => ?_)
      refine aw_c (v := nI 1) rfl (by decide) ?_
      refine aw rfl rfl ?_
      exact aw_iret rfl rfl (q1 (Or.inr g))
    · refine aw_eq rfl (fun _ => ?_) (fun c => absurd (by decide) c)
      refine aw_c (v := nI 0) rfl (by decide) ?_
      exact aw_iret rfl rfl (q0 hk2 g)
theorem c_X7_firstWay {h : am_H} {Q : Option Value → am_H → Prop} {p : Nat} {T : Sd} (hS : SA h p T) {k : Nat} (hk : k ≤ T.1 3) (hk4 : T.1 3 ≤ 4) (q : Q (some (.int (nI (if k = T.1 3 then 24 else k * 6)))) h) : AC am_P 0 0 101 [.ref p, .int (nI k)] h Q := by
  refine AC.of (ls := [_, _]) rfl ?_
  obtain ⟨s0, s1, s2, s3, s4, s5, s6, ⟨w, s7⟩, s8, s9, s13, s14⟩ := hS
  refine aw rfl rfl ?_
  refine aw rfl rfl ?_
  refine aw_getf rfl (by repeat first | assumption | exact hg_eq | refine hg_ne (by first | assumption | omega) ?_) rfl ?_
  refine aw_ine rfl (fun c5 => ?_) (fun c5 => ?_)
  · refine aw rfl rfl ?_
    refine aw_c (v := nI 6) rfl (by decide) ?_
    refine aw rfl rfl ?_
    exact aw_iret rfl rfl (by rw [if_neg (fun z => c5 (by rw [z]))] at q; rw [pk_mul]; exact q)
  · refine aw_c (v := nI 24) rfl (by decide) ?_
    refine aw rfl rfl ?_
    exact aw_iret rfl rfl (by rw [if_pos ((nI_eq (by omega) (by omega)).mp c5)] at q; exact q)
theorem c_X7_endOfWays {h : am_H} {Q : Option Value → am_H → Prop} {p : Nat} {T : Sd} (hS : SA h p T) {k : Nat} (hk : k ≤ T.1 3) (hk4 : T.1 3 ≤ 4) (q1 : k < T.1 3 → Q (some (.int (nI (k * 6) + T.2 1 k))) h) (q0 : k = T.1 3 → Q (some (.int (nI 25))) h) : AC am_P 0 0 102 [.ref p, .int (nI k)] h Q := by
  refine AC.of (ls := [_, _]) rfl ?_
  obtain ⟨s0, s1, s2, s3, s4, s5, s6, ⟨w, s7⟩, s8, s9, s13, s14⟩ := hS
  refine aw rfl rfl ?_
  refine aw_lt rfl (fun c1 => absurd c1 (n_neg k (by omega))) (fun c1 => ?_)
  refine aw rfl rfl ?_
  refine aw rfl rfl ?_
  refine aw_getf rfl (by repeat first | assumption | exact hg_eq | refine hg_ne (by first | assumption | omega) ?_) rfl ?_
  refine aw_ilt rfl (fun c9 => ?_) (fun c9 => ?_)
  · refine aw rfl rfl ?_
    refine aw_c (v := nI 6) rfl (by decide) ?_
    refine aw rfl rfl ?_
    refine aw rfl rfl ?_
    refine aw_getf rfl (by repeat first | assumption | exact hg_eq | refine hg_ne (by first | assumption | omega) ?_) rfl ?_
    refine aw rfl rfl ?_
    refine aw_iald (k := k) rfl (by repeat first | assumption | exact hg_eq | refine hg_ne (by first | assumption | omega) ?_) rfl (Nat.lt_of_lt_of_le ((nI_ltI (a := k) (b := T.1 3) (by omega) (by omega)).mp c9) hk4) (by decide) ?_
    refine aw rfl rfl ?_
    exact aw_iret rfl rfl (by rw [pk_mul]; exact q1 ((nI_ltI (by omega) (by omega)).mp c9))
  · refine aw_c (v := nI 25) rfl (by decide) ?_
    exact aw_iret rfl rfl (q0 (by have := mt (nI_ltI (a := k) (b := T.1 3) (by omega) (by omega)).mpr c9; omega))
theorem c_X7_sixthsOf {h : am_H} {Q : Option Value → am_H → Prop} {p : Nat} {T : Sd} (hS : SA h p T) {k : Nat} (hk : k < 25) (q : Q (some (.int (T.2 2 k))) h) : AC am_P 0 0 103 [.ref p, .int (nI k)] h Q := by
  refine AC.of (ls := [_, _]) rfl ?_
  obtain ⟨s0, s1, s2, s3, s4, s5, s6, ⟨w, s7⟩, s8, s9, s13, s14⟩ := hS
  refine aw rfl rfl ?_
  refine aw_lt rfl (fun c1 => absurd c1 (n_neg k (by omega))) (fun c1 => ?_)
  refine aw rfl rfl ?_
  refine aw_c (v := nI 25) rfl (by decide) ?_
  refine aw_ige rfl (fun c7 => absurd c7 (n_nle hk (by decide))) (fun c7 => ?_)
  refine aw rfl rfl ?_
  refine aw_getf rfl (by repeat first | assumption | exact hg_eq | refine hg_ne (by first | assumption | omega) ?_) rfl ?_
  refine aw rfl rfl ?_
  refine aw_iald (k := k) rfl (by repeat first | assumption | exact hg_eq | refine hg_ne (by first | assumption | omega) ?_) rfl hk (by decide) ?_
  refine aw rfl rfl ?_
  exact aw_iret rfl rfl q
theorem c_X7_stoneLie {h : am_H} {Q : Option Value → am_H → Prop} {p : Nat} {T : Sd} (hS : SA h p T) {a c f : Nat} (ha : T.2 6 0 = nI a) (hc : T.2 6 1 = nI c) (hf : T.2 6 2 = nI f) (q : Q (some (.int (nI ((c * 8 + a) * 3 + f)))) h) : AC am_P 1 21 87 [.ref p] h Q := by
  refine AC.of (ls := [_]) rfl ?_
  obtain ⟨s0, s1, s2, s3, s4, s5, s6, ⟨w, s7⟩, s8, s9, s13, s14⟩ := hS
  refine aw rfl rfl ?_
  refine aw_getf rfl (by repeat first | assumption | exact hg_eq | refine hg_ne (by first | assumption | omega) ?_) rfl ?_
  refine aw_c (v := nI 0) rfl (by decide) ?_
  refine aw_iald (k := 0) rfl (by repeat first | assumption | exact hg_eq | refine hg_ne (by first | assumption | omega) ?_) rfl (by decide) (by decide) ?_
  refine aw rfl rfl ?_
  refine aw_getf rfl (by repeat first | assumption | exact hg_eq | refine hg_ne (by first | assumption | omega) ?_) rfl ?_
  refine aw_c (v := nI 1) rfl (by decide) ?_
  refine aw_iald (k := 1) rfl (by repeat first | assumption | exact hg_eq | refine hg_ne (by first | assumption | omega) ?_) rfl (by decide) (by decide) ?_
  rw [ha, hc]
  refine aw_cs (d1 := 0) (L1 := 0) rfl rfl (by decide) (by decide) (Nat.le_of_ble_eq_true rfl) (c_X10_squareOf ?_)
  refine aw rfl rfl ?_
  refine aw_getf rfl (by repeat first | assumption | exact hg_eq | refine hg_ne (by first | assumption | omega) ?_) rfl ?_
  refine aw_c (v := nI 2) rfl (by decide) ?_
  refine aw_iald (k := 2) rfl (by repeat first | assumption | exact hg_eq | refine hg_ne (by first | assumption | omega) ?_) rfl (by decide) (by decide) ?_
  rw [hf]
  refine aw_cs (d1 := 0) (L1 := 0) rfl rfl (by decide) (by decide) (Nat.le_of_ble_eq_true rfl) (c_X10_lieOf ?_)
  exact aw_iret rfl rfl q
theorem c_X7_friendLie {h : am_H} {Q : Option Value → am_H → Prop} {p : Nat} {T : Sd} (hS : SA h p T) {a c f : Nat} (ha : T.2 7 0 = nI a) (hc : T.2 7 1 = nI c) (hf : T.2 7 2 = nI f) (q : Q (some (.int (nI ((c * 8 + a) * 3 + f)))) h) : AC am_P 1 21 107 [.ref p] h Q := by
  refine AC.of (ls := [_]) rfl ?_
  obtain ⟨s0, s1, s2, s3, s4, s5, s6, ⟨w, s7⟩, s8, s9, s13, s14⟩ := hS
  refine aw rfl rfl ?_
  refine aw_getf rfl (by repeat first | assumption | exact hg_eq | refine hg_ne (by first | assumption | omega) ?_) rfl ?_
  refine aw_c (v := nI 0) rfl (by decide) ?_
  refine aw_iald (k := 0) rfl (by repeat first | assumption | exact hg_eq | refine hg_ne (by first | assumption | omega) ?_) rfl (by decide) (by decide) ?_
  refine aw rfl rfl ?_
  refine aw_getf rfl (by repeat first | assumption | exact hg_eq | refine hg_ne (by first | assumption | omega) ?_) rfl ?_
  refine aw_c (v := nI 1) rfl (by decide) ?_
  refine aw_iald (k := 1) rfl (by repeat first | assumption | exact hg_eq | refine hg_ne (by first | assumption | omega) ?_) rfl (by decide) (by decide) ?_
  rw [ha, hc]
  refine aw_cs (d1 := 0) (L1 := 0) rfl rfl (by decide) (by decide) (Nat.le_of_ble_eq_true rfl) (c_X10_squareOf ?_)
  refine aw rfl rfl ?_
  refine aw_getf rfl (by repeat first | assumption | exact hg_eq | refine hg_ne (by first | assumption | omega) ?_) rfl ?_
  refine aw_c (v := nI 2) rfl (by decide) ?_
  refine aw_iald (k := 2) rfl (by repeat first | assumption | exact hg_eq | refine hg_ne (by first | assumption | omega) ?_) rfl (by decide) (by decide) ?_
  rw [hf]
  refine aw_cs (d1 := 0) (L1 := 0) rfl rfl (by decide) (by decide) (Nat.le_of_ble_eq_true rfl) (c_X10_lieOf ?_)
  exact aw_iret rfl rfl q
def n_mix (h w : Int32) : Int32 := ((h ^^^ w) * nI 1103515245 + nI 12345) ^^^ ((((h ^^^ w) * nI 1103515245 + nI 12345).toUInt32 >>> ((nI 15).toUInt32 &&& Int32.toUInt32 31)).toInt32)
theorem c_X7_mix {h : am_H} {Q : Option Value → am_H → Prop} {x y : Int32} (q : Q (some (.int (n_mix x y))) h) : AC am_P 0 0 100 [.int x, .int y] h Q := by
  refine AC.of (ls := [_, _, _]) rfl ?_
  refine aw rfl rfl ?_
  refine aw rfl rfl ?_
  refine aw rfl rfl ?_
  refine aw rfl rfl ?_
  refine aw rfl rfl ?_
  refine aw_c (v := nI 12345) rfl (by decide) ?_
  refine aw rfl rfl ?_
  refine aw_ist (ls' := [_, _, _]) rfl rfl ?_
  refine aw rfl rfl ?_
  refine aw rfl rfl ?_
  refine aw_c (v := nI 15) rfl (by decide) ?_
  refine aw rfl rfl ?_
  refine aw rfl rfl ?_
  exact aw_iret rfl rfl q
def n_lot (seed which : Int32) : Int32 := (((n_mix (n_mix seed (nI 55)) which).toUInt32 >>> ((nI 1).toUInt32 &&& Int32.toUInt32 31)).toInt32) - (((n_mix (n_mix seed (nI 55)) which).toUInt32 >>> ((nI 1).toUInt32 &&& Int32.toUInt32 31)).toInt32) / nI 6 * nI 6
theorem c_X7_lotOfSix {h : am_H} {Q : Option Value → am_H → Prop} {p : Nat} {T : Sd} (hS : SA h p T) {x : Int32} (q : Q (some (.int (n_lot (nI (T.1 6)) x))) h) : AC am_P 1 22 99 [.ref p, .int x] h Q := by
  refine AC.of (ls := [_, _, _]) rfl ?_
  obtain ⟨s0, s1, s2, s3, s4, s5, s6, ⟨w, s7⟩, s8, s9, s13, s14⟩ := hS
  refine aw rfl rfl ?_
  refine aw_getf rfl (by repeat first | assumption | exact hg_eq | refine hg_ne (by first | assumption | omega) ?_) rfl ?_
  refine aw_c (v := nI 55) rfl (by decide) ?_
  refine aw_cs (d1 := 0) (L1 := 0) rfl rfl (by decide) (by decide) (Nat.le_of_ble_eq_true rfl) (c_X7_mix ?_)
  refine aw rfl rfl ?_
  refine aw_cs (d1 := 0) (L1 := 0) rfl rfl (by decide) (by decide) (Nat.le_of_ble_eq_true rfl) (c_X7_mix ?_)
  refine aw_ist (ls' := [_, _, _]) rfl rfl ?_
  refine aw rfl rfl ?_
  refine aw_c (v := nI 1) rfl (by decide) ?_
  refine aw rfl rfl ?_
  refine aw_c (v := nI 6) rfl (by decide) ?_
  refine aw_irem rfl (by decide) ?_
  exact aw_iret rfl rfl q
