/-! ===== a formula: steps; the class: takeUnit, takeOpening, operatorNext ===== -/
section Y1
variable {Y : Tk} {n d : Nat} {l : List Nat} {e : Ex} {s : Ps}
theorem yi_open (h : YI9 (n + 1) true d l e s) (hd : ¬ d = 6) (hg : (go Y s).2.1.1 = 0) : YI9 n true (d + 1) (0 :: l) e (go Y s) := by
  obtain ⟨_, g2, g3⟩ := go_1 hg
  obtain ⟨h1, h2, h3, h4, h5, h6, h7⟩ := h
  rw [g3]
  refine ⟨?_, fun x hx => ?_, ?_, by omega, ?_, by show n + (s.1 + 1) = 401; omega, by show s.1 + 1 ≤ 400; omega⟩
  · cases l with
    | nil => exact Nat.zero_le _
    | cons y r => exact ⟨Nat.zero_le _, Or.inl rfl, h1⟩
  · rcases List.mem_cons.mp hx with rfl | hx
    · decide
    · exact h2 x hx
  · rw [z0, if_pos rfl]; omega
  · rw [z1, if_pos rfl, Nat.zero_add]; exact h5
theorem yi_int (h : YI9 (n + 1) true d l e s) {v : Int32} (hg : (go Y s).2.1.1 = 0) : YI9 n false d l (e ++ [(0, v)]) (go Y s) := by
  have hl := h.len
  obtain ⟨_, g2, g3⟩ := go_1 hg
  obtain ⟨h1, h2, h3, h4, h5, h6, h7⟩ := h
  rw [g3]
  refine ⟨h1, h2, h3, h4, ew_app _ _ _ _ _ h5 ?_, by show n + (s.1 + 1) = 401; omega, by show s.1 + 1 ≤ 400; omega⟩
  show ew [(0, v)] (z1 l + 0) (z1 l + 1)
  rw [ew, if_pos rfl]
  exact ⟨by omega, rfl⟩
theorem yi_var (h : YI9 (n + 1) true d l e s) {j : Nat} (hj : j < 7) (hg : (go Y s).2.1.1 = 0) : YI9 n false d l (e ++ [(1, nI j)]) (go Y s) := by
  have hl := h.len
  obtain ⟨_, g2, g3⟩ := go_1 hg
  obtain ⟨h1, h2, h3, h4, h5, h6, h7⟩ := h
  rw [g3]
  refine ⟨h1, h2, h3, h4, ew_app _ _ _ _ _ h5 ?_, by show n + (s.1 + 1) = 401; omega, by show s.1 + 1 ≤ 400; omega⟩
  show ew [(1, nI j)] (z1 l + 0) (z1 l + 1)
  rw [ew, if_neg (by decide), if_pos rfl]
  exact ⟨by omega, ⟨j, hj, rfl⟩, rfl⟩
theorem tw_2 {P : Nat → Bool} (hP : P 0 = false) (h1 : ajO l) (h2 : no1 l) : ∀ x ∈ l.takeWhile P, 2 ≤ x ∧ x ≤ 5 := by
  intro x hx
  have h3 := (dw_n P hP l h1).2.2.2 x hx
  have h4 := (no1_d (P := P) h2).2.2 x hx
  omega
theorem yi_close (h : YI9 (n + 1) false d l e s) (hd : 0 < d) (hg : (go Y s).2.1.1 = 0) : YI9 n false (d - 1) (l.dropWhile nzB).tail (e ++ opsE (l.takeWhile nzB)) (go Y s) := by
  obtain ⟨_, g2, g3⟩ := go_1 hg
  obtain ⟨h1, h2, h3, h4, h5, h6, h7⟩ := h
  rw [g3]
  obtain ⟨d1, d2, d3⟩ := dw_t h1 (by omega)
  refine ⟨d1, (no1_d h2).2.1, by omega, by omega, ew_app _ _ _ _ _ h5 ?_, by show n + (s.1 + 1) = 401; omega, by show s.1 + 1 ≤ 400; omega⟩
  have h9 := ew_ops (l.takeWhile nzB) (z1 (l.dropWhile nzB).tail) (tw_2 nz0 h1 h2)
  show ew _ (z1 l + 1) (z1 (l.dropWhile nzB).tail + 1)
  rw [← d3]
  exact h9
theorem yi_op (h : YI9 (n + 1) false d l e s) {o : Nat} (ho : 2 ≤ o ∧ o ≤ 5) (hg : (go Y s).2.1.1 = 0) : YI9 n true d (o :: l.dropWhile (ppB (decide (4 ≤ o)))) (e ++ opsE (l.takeWhile (ppB (decide (4 ≤ o))))) (go Y s) := by
  obtain ⟨_, g2, g3⟩ := go_1 hg
  obtain ⟨h1, h2, h3, h4, h5, h6, h7⟩ := h
  rw [g3]
  obtain ⟨d1, d2, d3, d4⟩ := dw_n (ppB (decide (4 ≤ o))) pp0 l h1
  refine ⟨aj_op ho h1, fun x hx => ?_, by rw [z0, if_neg (by omega)]; omega, by omega, ew_app _ _ _ _ _ h5 ?_, by show n + (s.1 + 1) = 401; omega, by show s.1 + 1 ≤ 400; omega⟩
  · rcases List.mem_cons.mp hx with rfl | hx
    · omega
    · exact (no1_d h2).1 x hx
  · have h9 := ew_ops (l.takeWhile (ppB (decide (4 ≤ o)))) (z1 (l.dropWhile (ppB (decide (4 ≤ o))))) (tw_2 pp0 h1 h2)
    show ew _ (z1 l + 1) (z1 (o :: l.dropWhile (ppB (decide (4 ≤ o)))) + 0)
    rw [z1, if_neg (by omega), ← d3, Nat.add_zero, Nat.add_comm 1]
    exact h9
theorem yi_end (h : YI9 (n + 1) false 0 l e s) : ex_wf (e ++ opsE (l.takeWhile nzB)) 0 := by
  obtain ⟨h1, h2, h3, h4, h5, h6, h7⟩ := h
  obtain ⟨d1, d2⟩ := dw_e h1 h3
  refine ew_wf _ _ (ew_app _ _ _ _ _ h5 ?_)
  have h9 := ew_ops (l.takeWhile nzB) 0 (tw_2 nz0 h1 h2)
  rw [Nat.zero_add, d2] at h9
  exact h9
/-- what a formula is, once it is read -/
theorem yd_ok : ∀ (n : Nat) (w : Bool) (d : Nat) (l : List Nat) (e : Ex) (s : Ps), s.2.1.1 = 0 → YI9 n w d l e s → (∀ i, kOK (Y.1 i)) → (yd Y n w d l e s).2.2.1.1 = 0 → ex_wf (yd Y n w d l e s).1 0 ∧ (yd Y n w d l e s).1.length + s.1 ≤ e.length + z1 l + (yd Y n w d l e s).2.1 ∧ (yd Y n w d l e s).2.1 ≤ 400 ∧ (w = true → s.1 + 1 ≤ (yd Y n w d l e s).2.1) := by
  intro n
  induction n with
  | zero => intro w d l e s hf h; obtain ⟨h1, h2, h3, h4, h5, h6, h7⟩ := h; omega
  | succ n ih =>
    intro w d l e s hf h hk
    have hnx : ∀ (w' : Bool) (d' : Nat) (l' : List Nat) (e' : Ex), ((go Y s).2.1.1 = 0 → YI9 n w' d' l' e' (go Y s)) → e'.length + z1 l' ≤ e.length + z1 l + 1 → (yd Y n w' d' l' e' (go Y s)).2.2.1.1 = 0 → ex_wf (yd Y n w' d' l' e' (go Y s)).1 0 ∧ (yd Y n w' d' l' e' (go Y s)).1.length + s.1 ≤ e.length + z1 l + (yd Y n w' d' l' e' (go Y s)).2.1 ∧ (yd Y n w' d' l' e' (go Y s)).2.1 ≤ 400 ∧ (w = true → s.1 + 1 ≤ (yd Y n w' d' l' e' (go Y s)).2.1) := by
      intro w' d' l' e' hy hm h0
      by_cases hg : (go Y s).2.1.1 = 0
      · obtain ⟨i1, i2, i3, i4⟩ := ih w' d' l' e' (go Y s) hg (hy hg) hk h0
        obtain ⟨_, g2, g3⟩ := go_1 hg
        have g4 : (go Y s).1 = s.1 + 1 := by rw [g3]
        have h9 : w' = true ∨ w' = false := by cases w' <;> simp
        have hmono : (go Y s).1 ≤ (yd Y n w' d' l' e' (go Y s)).2.1 := by
          have key : ∀ (n : Nat) (w : Bool) (d : Nat) (l : List Nat) (e : Ex) (s : Ps), s.1 ≤ (yd Y n w d l e s).2.1 := by
            intro n
            induction n with
            | zero => intro w d l e s; exact Nat.le_refl _
            | succ n ih =>
              intro w d l e s
              have hgo : s.1 ≤ (go Y s).1 := by unfold go; split <;> (try split) <;> simp
              have hfl : ∀ c, s.1 ≤ (fl Y c s).1 := by intro c; unfold fl; split <;> simp
              have hx : ∀ (w' : Bool) (d' : Nat) (l' : List Nat) (e' : Ex), s.1 ≤ (yd Y n w' d' l' e' (go Y s)).2.1 := fun w' d' l' e' => Nat.le_trans hgo (ih _ _ _ _ _)
              rw [yd]
              split
              · exact Nat.le_refl _
              · cases w with
                | true =>
                  show s.1 ≤ (if Y.1 s.1 = 6 then _ else _ : Ex × Ps).2.1
                  split
                  · split
                    · exact hfl 2
                    · exact hx _ _ _ _
                  · split
                    · exact hx _ _ _ _
                    · split
                      · exact hx _ _ _ _
                      · exact hfl 1
                | false =>
                  show s.1 ≤ (if Y.1 s.1 = 7 ∧ 0 < d then _ else _ : Ex × Ps).2.1
                  split
                  · exact hx _ _ _ _
                  · split
                    · exact hx _ _ _ _
                    · split
                      · exact hfl 1
                      · exact Nat.le_refl _
          exact key _ _ _ _ _ _
        exact ⟨i1, by omega, i3, fun _ => by omega⟩
      · rw [yd_f hg] at h0
        exact absurd h0 hg
    rw [yd, if_neg (fun z => z hf)]
    cases w with
    | true =>
      show (if Y.1 s.1 = 6 then _ else _ : Ex × Ps).2.2.1.1 = 0 → _
      rw [cond_true]
      by_cases h6 : Y.1 s.1 = 6
      · rw [if_pos h6]
        by_cases hd : d = 6
        · rw [if_pos hd]; intro h0; exact absurd h0 (fl_0 (by decide))
        · rw [if_neg hd]; exact hnx _ _ _ _ (yi_open h hd) (by rw [z1, if_pos rfl]; omega)
      · rw [if_neg h6]
        by_cases h2 : Y.1 s.1 = 2
        · rw [if_pos h2]; exact hnx _ _ _ _ (yi_int h) (by rw [List.length_append]; show e.length + 1 + z1 l ≤ _; omega)
        · rw [if_neg h2]
          by_cases h3 : 36 ≤ Y.1 s.1
          · rw [if_pos h3]
            have hk9 := hk s.1
            exact hnx _ _ _ _ (yi_var h (by unfold kOK sgK at hk9; omega)) (by rw [List.length_append]; show e.length + 1 + z1 l ≤ _; omega)
          · rw [if_neg h3]; intro h0; exact absurd h0 (fl_0 (by decide))
    | false =>
      rw [cond_false]
      by_cases h7 : Y.1 s.1 = 7 ∧ 0 < d
      · rw [if_pos h7]
        have h9 := dw_t h.1 (by have := h.2.2.1; omega)
        exact hnx _ _ _ _ (yi_close h h7.2) (by rw [List.length_append, opsE_len]; omega)
      · rw [if_neg h7]
        by_cases h8 : Y.1 s.1 = 8 ∨ Y.1 s.1 = 9 ∨ Y.1 s.1 = 10 ∨ Y.1 s.1 = 15
        · rw [if_pos h8]
          have h9 := (dw_n (ppB (decide (4 ≤ opK (Y.1 s.1)))) pp0 l h.1).2.2.1
          exact hnx _ _ _ _ (yi_op h opK_in) (by rw [List.length_append, opsE_len, z1, if_neg (by have := @opK_in (Y.1 s.1); omega)]; omega)
        · rw [if_neg h8]
          by_cases hd : 0 < d
          · rw [if_pos hd]; intro h0; exact absurd h0 (fl_0 (by decide))
          · rw [if_neg hd]
            intro _
            have hd0 : d = 0 := by omega
            subst hd0
            have h9 := dw_e h.1 h.2.2.1
            refine ⟨yi_end h, by rw [List.length_append, opsE_len]; show e.length + _ + s.1 ≤ e.length + z1 l + s.1; omega, h.2.2.2.2.2.2, fun z => by cases z⟩
theorem xp_ok {s : Ps} (hf : s.2.1.1 = 0) (hs : s.1 ≤ 400) (hk : ∀ i, kOK (Y.1 i)) (h0 : (xp Y s).2.2.1.1 = 0) : ex_wf (xp Y s).1 0 ∧ (xp Y s).1.length + s.1 ≤ (xp Y s).2.1 ∧ (xp Y s).2.1 ≤ 400 ∧ s.1 + 1 ≤ (xp Y s).2.1 := by
  have h := yd_ok (401 - s.1) true 0 [] [] s hf ⟨trivial, fun x hx => by simp at hx, rfl, by decide, rfl, by omega, hs⟩ hk h0
  obtain ⟨h1, h2, h3, h4⟩ := h
  exact ⟨h1, by have : ([] : Ex).length = 0 := rfl; have : z1 [] = 0 := rfl; unfold xp; omega, h3, h4 rfl⟩
end Y1

