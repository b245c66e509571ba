/-! ===== more room does no harm ===== -/
theorem am_do_lift {P : Nat → am_M} {d L d' L' ret pc nx a b : Nat} {i : Instr} {ls : List (Option Value)} {st : List Value} {h : am_H} {o : am_S ⊕ (Option Value) ⊕ (Nat × List Value × am_S)} (hd : d ≤ d') (hL : L ≤ L') (hs : am_do P d L ret i pc nx a b ls st h = some o) : am_do P d' L' ret i pc nx a b ls st h = some o := by
  have ble : ∀ {x y z : Nat}, Nat.ble x y = true → y ≤ z → Nat.ble x z = true := fun h1 h2 => Nat.ble_eq_true_of_le (Nat.le_trans (Nat.le_of_ble_eq_true h1) h2)
  cases i
  case invokespecial idx =>
    dsimp only [am_do] at hs ⊢
    cases ha : Nat.beq a 999 with
    | false => rw [ha] at hs; exact hs
    | true =>
      rw [ha, cond_true] at hs
      rw [cond_true]
      have hs0 := am_r1_inv hs; clear hs; obtain ⟨q, r, hst, hs⟩ := hs0
      subst hst
      have hs0 := am_bif_inv hs; clear hs; obtain ⟨hc, hs⟩ := hs0
      rw [Bool.and_eq_true] at hc
      show (bif Nat.ble 1 d' && Nat.ble (am_cat r + 12) L' then _ else none) = _
      rw [ble hc.1 hd, ble hc.2 hL]
      exact hs
  case invokestatic idx =>
    dsimp only [am_do] at hs ⊢
    cases ha : Nat.beq a 998 with
    | true =>
      rw [ha, cond_true] at hs
      rw [cond_true]
      split at hs
      · have hs0 := am_cA_inv hs; clear hs; obtain ⟨n0, f, hc0, hs⟩ := hs0
        have hs0 := am_cA_inv hs; clear hs; obtain ⟨n1, f1, hc1, hs⟩ := hs0
        split at hs
        · cases hs
        · rename_i hcd
          rw [hc0, hc1]
          show (if _ then none else _) = _
          rw [if_neg]
          · exact hs
          · intro z
            apply hcd
            rcases z with z | z | z | z | z | z | z | z | z
            · exact Or.inl z
            · exact Or.inr (Or.inl z)
            · exact Or.inr (Or.inr (Or.inl z))
            · exact Or.inr (Or.inr (Or.inr (Or.inl z)))
            · exact Or.inr (Or.inr (Or.inr (Or.inr (Or.inl z))))
            · exact Or.inr (Or.inr (Or.inr (Or.inr (Or.inr (Or.inl z)))))
            · exact Or.inr (Or.inr (Or.inr (Or.inr (Or.inr (Or.inr (Or.inl z))))))
            · exact Or.inr (Or.inr (Or.inr (Or.inr (Or.inr (Or.inr (Or.inr (Or.inl (by omega))))))))
            · exact Or.inr (Or.inr (Or.inr (Or.inr (Or.inr (Or.inr (Or.inr (Or.inr (by omega))))))))
      · cases hs
    | false =>
      rw [ha, cond_false] at hs
      rw [cond_false]
      cases hb : Nat.beq a 997 with
      | true =>
        rw [hb, cond_true] at hs
        rw [cond_true]
        have hs0 := am_ii_inv hs; clear hs; obtain ⟨x, y, r, hst, hs⟩ := hs0
        subst hst
        have hs0 := am_bif_inv hs; clear hs; obtain ⟨hc, hs⟩ := hs0
        rw [Bool.and_eq_true] at hc
        show (bif Nat.ble 1 d' && Nat.ble (am_cat r + 13) L' then _ else none) = _
        rw [ble hc.1 hd, ble hc.2 hL]
        exact hs
      | false =>
        rw [hb, cond_false] at hs
        rw [cond_false]
        cases hb2 : Nat.beq a 996 with
        | true =>
          rw [hb2, cond_true] at hs
          rw [cond_true]
          have hs0 := am_ii_inv hs; clear hs; obtain ⟨x, y, r, hst, hs⟩ := hs0
          subst hst
          have hs0 := am_bif_inv hs; clear hs; obtain ⟨hc, hs⟩ := hs0
          rw [Bool.and_eq_true] at hc
          show (bif Nat.ble 1 d' && Nat.ble (am_cat r + 13) L' then _ else none) = _
          rw [ble hc.1 hd, ble hc.2 hL]
          exact hs
        | false =>
          rw [hb2, cond_false] at hs
          rw [cond_false]
          cases hb3 : Nat.beq a 994 with
          | true =>
            rw [hb3, cond_true] at hs
            rw [cond_true]
            have hs0 := am_ii_inv hs; clear hs; obtain ⟨x, y, r, hst, hs⟩ := hs0
            subst hst
            split at hs
            · cases hs
            · rename_i hxy
              have hs0 := am_bif_inv hs; clear hs; obtain ⟨hc, hs⟩ := hs0
              simp only [Bool.and_eq_true] at hc
              show (if x < 0 ∨ ¬ x < y then none else bif Nat.ble 2 d' && Nat.ble (am_cat r) 8 && Nat.ble 60 L' then _ else none) = _
              rw [if_neg hxy, ble hc.1.1 hd, hc.1.2, ble hc.2 hL]
              exact hs
          | false => rw [hb3] at hs; exact hs
  all_goals exact hs
theorem am_run_lift {P : Nat → am_M} : ∀ (n d L M : Nat) (c : am_S) (x : Option Value × am_H) (d' L' : Nat), d ≤ d' → L ≤ L' → am_run P n d L M c = some x → am_run P n d' L' M c = some x := by
  intro n
  induction n with
  | zero => intro d L M c x d' L' _ _ h; simp [am_run] at h
  | succ n ih =>
    intro d L M c x d' L' hd hL h
    rw [am_run] at h ⊢
    cases hs : am_step P d L M c with
    | none => rw [hs] at h; simp at h
    | some o =>
      have hs' : am_step P d' L' M c = some o := by
        unfold am_step at hs ⊢
        cases hat : am_at (P M).2.2.2 c.1 with
        | none => rw [hat] at hs; cases hs
        | some q => rw [hat] at hs; exact am_do_lift hd hL hs
      rw [hs] at h
      rw [hs']
      match o, h with
      | .inl c', h => exact ih _ _ _ _ _ _ _ hd hL h
      | .inr (.inl r), h => exact h
      | .inr (.inr (y, vs, c')), h =>
        cases d with
        | zero => simp at h
        | succ d1 =>
          cases d' with
          | zero => omega
          | succ d2 =>
            dsimp only at h ⊢
            split at h
            · cases h
            · rename_i hc
              rw [if_neg (show ¬ (L' < am_lc P y ∨ (P y).2.1 < (am_ent0 vs).length) by omega)]
              cases hr : am_run P n d1 (L - am_lc P y) y (0, am_ent vs (P y).2.1, [], c'.2.2.2) with
              | none => rw [hr] at h; simp at h
              | some q =>
                obtain ⟨r, h1⟩ := q
                rw [hr] at h
                rw [ih _ _ _ _ _ d2 (L' - am_lc P y) (by omega) (by omega) hr]
                exact ih _ _ _ _ _ _ _ hd hL h
theorem AC.lift {P : Nat → am_M} {d L d' L' y : Nat} {vs : List Value} {h : am_H} {Q : Option Value → am_H → Prop} (k : AC P d L y vs h Q) (hd : d ≤ d') (hL : L ≤ L') : AC P d' L' y vs h Q := by
  obtain ⟨n, r, h1, e, q⟩ := k
  exact ⟨n, r, h1, am_run_lift _ _ _ _ _ _ _ _ hd hL e, q⟩
