/-! ===== Laws.value: the loop ===== -/
theorem n_and7 (w : Int32) : ∃ j : Nat, j < 8 ∧ w &&& nI 7 = nI j := pk_andE w 3 (by decide)
theorem l_value {h : am_H} {Q : Option Value → am_H → Prop} {p k size : Nat} {x2 t w : Int32} {steps f : Nat → Int32} (h8 : 8 ≤ p) (hl : h.2.2 (p + 7) = .inl (1, [.ref (p + 8), .int (nI size), .ref (p + 9), .int t, .ref (p + 10), .int w, .ref (p + 11), .ref (p + 12)])) (hst : h.2.2 (p + 8) = am_ints 400 steps) (hf : h.2.2 (p + 11) = am_ints 7 f) (hsz : size ≤ 400) :
    ∀ (n i top : Nat) (sk : Nat → Int32) (o5 o6 : Option Value), i < 300000000 → top ≤ 32 → size < i + n → Q (some (.int (n_vl steps f size n i top sk).1)) (am_up h (p + 12) (am_ints 32 (n_vl steps f size n i top sk).2)) →
    AW am_P 1 22 24 35 [some (.ref (p + 7)), some (.int (nI k)), some (.int x2), some (.int (nI top)), some (.int (nI i)), o5, o6] [] (am_up h (p + 12) (am_ints 32 sk)) Q := by
  intro n
  induction n with
  | zero =>
    intro i top sk o5 o6 hi ht hn q
    refine aw rfl rfl ?_
    refine aw rfl rfl ?_
    refine aw_getf rfl (by repeat first | assumption | exact hg_eq | refine hg_ne (by first | assumption | omega) ?_) rfl ?_
    refine aw_ige rfl (fun c41 => ?_) (fun c41 => absurd (nI_le (by omega) (by omega)) c41)
    refine aw_c (v := nI 0) rfl (by decide) ?_
    exact aw_iret rfl rfl q
  | succ n ih =>
    intro i top sk o5 o6 hi ht hn q
    rw [n_vl] at q
    refine aw rfl rfl ?_
    refine aw rfl rfl ?_
    refine aw_getf rfl (by repeat first | assumption | exact hg_eq | refine hg_ne (by first | assumption | omega) ?_) rfl ?_
    refine aw_ige rfl (fun c41 => ?_) (fun c41 => ?_)
    · rw [if_pos ((nI_leI (by omega) (by omega)).mp c41)] at q
      refine aw_c (v := nI 0) rfl (by decide) ?_
      exact aw_iret rfl rfl q
    have hlt : i < size := Nat.not_le.mp fun z => c41 (nI_le z (by omega))
    rw [if_neg (show ¬ size ≤ i by omega)] at q
    refine aw rfl rfl ?_
    refine aw_getf rfl (by repeat first | assumption | exact hg_eq | refine hg_ne (by first | assumption | omega) ?_) rfl ?_
    refine aw rfl rfl ?_
    refine aw_iald (k := i) rfl (by repeat first | assumption | exact hg_eq | refine hg_ne (by first | assumption | omega) ?_) rfl (by omega) (by decide) ?_
    refine aw_c (v := nI 7) rfl (by decide) ?_
    refine aw rfl rfl ?_
    refine aw_ist (ls' := [_, _, _, _, _, _, _]) rfl rfl ?_
    refine aw rfl rfl ?_
    refine aw_getf rfl (by repeat first | assumption | exact hg_eq | refine hg_ne (by first | assumption | omega) ?_) rfl ?_
    refine aw rfl rfl ?_
    refine aw_iald (k := i) rfl (by repeat first | assumption | exact hg_eq | refine hg_ne (by first | assumption | omega) ?_) rfl (by omega) (by decide) ?_
    refine aw_c (v := nI 3) rfl (by decide) ?_
    refine aw rfl rfl ?_
    refine aw_ist (ls' := [_, _, _, _, _, _, _]) rfl rfl ?_
    have hx28 := n_shr3 (steps i)
    generalize hx : steps i >>> (nI 3 &&& 31) = x at q hx28 ⊢
    generalize hop : steps i &&& nI 7 = op at q ⊢
    have back : ∀ (i' top' : Nat) (sk' : Nat → Int32), i' < 300000000 → top' ≤ 32 → size < i' + n → Q (some (.int (n_vl steps f size n i' top' sk').1)) (am_up h (p + 12) (am_ints 32 (n_vl steps f size n i' top' sk').2)) → ∀ j, nI j + nI 1 = nI i' → AW am_P 1 22 24 228 [some (.ref (p + 7)), some (.int (nI k)), some (.int x2), some (.int (nI top')), some (.int (nI j)), some (.int op), some (.int x)] [] (am_up h (p + 12) (am_ints 32 sk')) Q := by
      intro i' top' sk' hi' ht' hn' q' j hj
      refine aw_inc (c := nI 1) (ls' := [_, _, _, _, _, _, _]) rfl rfl (by decide) rfl ?_
      rw [hj]
      refine aw rfl rfl ?_
      exact ih i' top' sk' _ _ hi' ht' hn' q'
    refine aw rfl rfl ?_
    refine aw_c (v := nI 7) rfl (by decide) ?_
    refine aw_ine rfl (fun c71 => ?_) (fun c71 => ?_)
    rotate_left
    · rw [if_pos c71] at q
      refine aw rfl rfl ?_
      refine aw_getf rfl (by repeat first | assumption | exact hg_eq | refine hg_ne (by first | assumption | omega) ?_) rfl ?_
      refine aw_c (v := nI 0) rfl (by decide) ?_
      refine aw_iald (k := 0) rfl (by repeat first | assumption | exact hg_eq | refine hg_ne (by first | assumption | omega) ?_) rfl (by decide) (by decide) ?_
      exact aw_iret rfl rfl q
    rw [if_neg c71] at q
    refine aw rfl rfl ?_
    have push : ∀ v : Int32, (32 ≤ top → Q (some (.int (nI 0))) (am_up h (p + 12) (am_ints 32 sk))) → (¬ 32 ≤ top → Q (some (.int (n_vl steps f size n (i + 1) (top + 1) (upd sk top v)).1)) (am_up h (p + 12) (am_ints 32 (n_vl steps f size n (i + 1) (top + 1) (upd sk top v)).2))) → (op = 0 ∧ x = v ∨ ¬ op = 0 ∧ n_fact f x = v) → AW am_P 1 22 24 92 [some (.ref (p + 7)), some (.int (nI k)), some (.int x2), some (.int (nI top)), some (.int (nI i)), some (.int op), some (.int x)] [] (am_up h (p + 12) (am_ints 32 sk)) Q := by
      intro v q1 q2 hv
      refine aw rfl rfl ?_
      refine aw_c (v := nI 32) rfl (by decide) ?_
      refine aw_ilt rfl (fun c95 => ?_) (fun c95 => ?_)
      rotate_left
      · refine aw_c (v := nI 0) rfl (by decide) ?_
        exact aw_iret rfl rfl (q1 (Nat.not_lt.mp fun z => c95 (nI_lt z (by decide))))
      have htop : top < 32 := (nI_ltI (by omega) (by decide)).mp c95
      have fin : AW am_P 1 22 24 121 [some (.ref (p + 7)), some (.int (nI k)), some (.int x2), some (.int (nI top)), some (.int (nI i)), some (.int op), some (.int x)] [.int v, .int (nI top), .ref (p + 12)] (am_up h (p + 12) (am_ints 32 sk)) Q := by
        refine aw_iast (k := top) rfl (by repeat first | assumption | exact hg_eq | refine hg_ne (by first | assumption | omega) ?_) rfl htop (by decide) (by omega) ?_
        rw [am_up_up]
        refine aw_inc (c := nI 1) (ls' := [_, _, _, _, _, _, _]) rfl rfl (by decide) rfl ?_
        rw [nI_add]
        refine aw rfl rfl ?_
        exact back (i + 1) (top + 1) _ (by omega) (by omega) (by omega) (q2 (by omega)) i (nI_add i 1)
      refine aw rfl rfl ?_
      refine aw_getf rfl (by repeat first | assumption | exact hg_eq | refine hg_ne (by first | assumption | omega) ?_) rfl ?_
      refine aw rfl rfl ?_
      refine aw rfl rfl ?_
      refine aw_ne rfl (fun c107 => ?_) (fun c107 => ?_)
      · rcases hv with ⟨e, -⟩ | ⟨-, e⟩
        · exact absurd e c107
        refine aw rfl rfl ?_
        refine aw rfl rfl ?_
        refine aw_cv (d1 := 0) (L1 := 0) rfl rfl (by repeat first | assumption | exact hg_eq | refine hg_ne (by first | assumption | omega) ?_) rfl rfl (by decide) (by decide) (Nat.le_of_ble_eq_true rfl) (c_X1_factAt h8 (by repeat first | assumption | exact hg_eq | refine hg_ne (by first | assumption | omega) ?_) (by repeat first | assumption | exact hg_eq | refine hg_ne (by first | assumption | omega) ?_) ?_)
        rw [e]
        exact fin
      · rcases hv with ⟨-, e⟩ | ⟨e, -⟩
        · refine aw rfl rfl ?_
          refine aw rfl rfl ?_
          subst e
          exact fin
        · exact absurd c107 e
    refine aw_eq rfl (fun c83 => ?_) (fun c83 => ?_)
    · rw [if_pos c83] at q
      refine push x (fun z => ?_) (fun z => ?_) (Or.inl ⟨c83, rfl⟩)
      · rw [if_pos z] at q; exact q
      · rw [if_neg z] at q; exact q
    rw [if_neg c83] at q
    refine aw rfl rfl ?_
    refine aw_c (v := nI 1) rfl (by decide) ?_
    refine aw_ine rfl (fun c89 => ?_) (fun c89 => ?_)
    rotate_left
    · rw [if_pos c89] at q
      refine push (n_fact f x) (fun z => ?_) (fun z => ?_) (Or.inr ⟨c83, rfl⟩)
      · rw [if_pos z] at q; exact q
      · rw [if_neg z] at q; exact q
    rw [if_neg c89] at q
    refine aw rfl rfl ?_
    refine aw_c (v := nI 2) rfl (by decide) ?_
    refine aw_ilt rfl (fun c130 => ?_) (fun c130 => ?_)
    · rw [if_pos ((nI_ltI (by omega) (by decide)).mp c130)] at q
      refine aw_c (v := nI 0) rfl (by decide) ?_
      exact aw_iret rfl rfl q
    have htop2 : 2 ≤ top := Nat.not_lt.mp fun z => c130 (nI_lt z (by decide))
    rw [if_neg (show ¬ top < 2 by omega)] at q
    have e1 : nI top - nI 1 = nI (top - 1) := pk_sub (by omega)
    have main : (op = nI 5 → ¬ sk (top - 1) = 0) → AW am_P 1 22 24 152 [some (.ref (p + 7)), some (.int (nI k)), some (.int x2), some (.int (nI top)), some (.int (nI i)), some (.int op), some (.int x)] [] (am_up h (p + 12) (am_ints 32 sk)) Q := by
      intro hnz
      rw [if_neg (fun z => hnz z.1 z.2)] at q
      refine aw rfl rfl ?_
      refine aw_c (v := nI 6) rfl (by decide) ?_
      refine aw_ine rfl (fun c156 => ?_) (fun c156 => ?_)
      · rw [if_neg c156] at q
        refine aw_inc (c := -1) (ls' := [_, _, _, _, _, _, _]) rfl rfl (by decide) rfl ?_
        rw [sb_m1 (show 0 < top by omega)]
        have e2 : nI (top - 1) - nI 1 = nI (top - 2) := by rw [pk_sub (by omega)]; rfl
        refine aw rfl rfl ?_
        refine aw_getf rfl (by repeat first | assumption | exact hg_eq | refine hg_ne (by first | assumption | omega) ?_) rfl ?_
        refine aw rfl rfl ?_
        refine aw_c (v := nI 1) rfl (by decide) ?_
        refine aw rfl rfl ?_
        refine aw rfl rfl ?_
        refine aw rfl rfl ?_
        refine aw_getf rfl (by repeat first | assumption | exact hg_eq | refine hg_ne (by first | assumption | omega) ?_) rfl ?_
        refine aw rfl rfl ?_
        refine aw_c (v := nI 1) rfl (by decide) ?_
        refine aw rfl rfl ?_
        refine aw_iald (k := top - 2) rfl (by repeat first | assumption | exact hg_eq | refine hg_ne (by first | assumption | omega) ?_) e2 (by omega) (by decide) ?_
        refine aw rfl rfl ?_
        refine aw_getf rfl (by repeat first | assumption | exact hg_eq | refine hg_ne (by first | assumption | omega) ?_) rfl ?_
        refine aw rfl rfl ?_
        refine aw_iald (k := top - 1) rfl (by repeat first | assumption | exact hg_eq | refine hg_ne (by first | assumption | omega) ?_) rfl (by omega) (by decide) ?_
        refine aw_cs (d1 := 0) (L1 := 0) rfl rfl (by decide) (by decide) (Nat.le_of_ble_eq_true rfl) (c_X1_joined ?_)
        refine aw_iast (k := top - 2) rfl (by repeat first | assumption | exact hg_eq | refine hg_ne (by first | assumption | omega) ?_) e2 (by omega) (by decide) (by omega) ?_
        rw [am_up_up]
        exact back (i + 1) (top - 1) _ (by omega) (by omega) (by omega) q i (nI_add i 1)
      · rw [if_pos c156] at q
        refine aw_inc (c := -2) (ls' := [_, _, _, _, _, _, _]) rfl rfl (by decide) rfl ?_
        have e2 : nI top + (-2) = nI (top - 2) := by
          rw [show (-2 : Int32) = (-1) + (-1) by decide, ← Int32.add_assoc, sb_m1 (show 0 < top by omega), sb_m1 (show 0 < top - 1 by omega)]
          rfl
        rw [e2]
        have e3 : nI (top - 2) + nI 1 = nI (top - 1) := by rw [nI_add]; congr 1; omega
        refine aw rfl rfl ?_
        refine aw_getf rfl (by repeat first | assumption | exact hg_eq | refine hg_ne (by first | assumption | omega) ?_) rfl ?_
        refine aw rfl rfl ?_
        refine aw_iald (k := top - 2) rfl (by repeat first | assumption | exact hg_eq | refine hg_ne (by first | assumption | omega) ?_) rfl (by omega) (by decide) ?_
        refine aw rfl rfl ?_
        refine aw_getf rfl (by repeat first | assumption | exact hg_eq | refine hg_ne (by first | assumption | omega) ?_) rfl ?_
        refine aw rfl rfl ?_
        refine aw_c (v := nI 1) rfl (by decide) ?_
        refine aw rfl rfl ?_
        refine aw_iald (k := top - 1) rfl (by repeat first | assumption | exact hg_eq | refine hg_ne (by first | assumption | omega) ?_) e3 (by omega) (by decide) ?_
        refine aw_ige rfl (fun c176 => ?_) (fun c176 => ?_)
        · rw [if_neg (Int32.not_lt.mpr c176)] at q
          refine aw rfl rfl ?_
          refine aw rfl rfl ?_
          refine aw_c (v := nI 1) rfl (by decide) ?_
          refine aw rfl rfl ?_
          refine aw rfl rfl ?_
          have hj : ∃ j : Nat, j < 268435456 + i + 1 ∧ i ≤ j ∧ (if nI i < x - nI 1 then x - nI 1 else nI i) = nI j := by
            split
            · rename_i hc
              have h0 : ¬ x - nI 1 < 0 := by
                intro z
                have := Int32.lt_trans hc z
                exact nI_pos (by omega) this
              obtain ⟨j, hj, e⟩ := nI_of h0
              refine ⟨j, ?_, ?_, e⟩
              · have ex : x = nI (j + 1) := by
                  rw [← nI_add, ← e]
                  simp
                rw [ex] at hx28
                by_cases hjj : j + 1 < 2147483648
                · rw [nI_toInt hjj] at hx28
                  omega
                · exfalso
                  have hj1 : j + 1 = 2147483648 := by omega
                  rw [hj1] at ex
                  have h1 : (steps i >>> (nI 3 &&& 31)).toInt = -2147483648 := by rw [hx, ex]; decide
                  rw [pk_shr (steps i) (nI 3 &&& 31) 3 (by decide), Int.shiftRight_eq_div_pow] at h1
                  have h2 := Int32.le_toInt (steps i)
                  omega
              · rw [e] at hc
                exact Nat.le_of_lt ((nI_ltI (by omega) hj).mp hc)
            · exact ⟨i, by omega, Nat.le_refl _, rfl⟩
          obtain ⟨j, hj1, hj2, ej⟩ := hj
          rw [ej] at q ⊢
          rw [nI_clamp (by omega)] at q
          refine aw_ist (ls' := [_, _, _, _, _, _, _]) rfl rfl ?_
          refine aw rfl rfl ?_
          by_cases hbig : j + 1 < 300000000
          · exact back (j + 1) (top - 2) _ hbig (by omega) (by omega) q j (nI_add j 1)
          · exfalso; omega
        · rw [if_pos (Int32.not_le.mp c176)] at q
          refine aw rfl rfl ?_
          refine aw rfl rfl ?_
          refine aw_ist (ls' := [_, _, _, _, _, _, _]) rfl rfl ?_
          refine aw rfl rfl ?_
          exact back (i + 1) (top - 2) _ (by omega) (by omega) (by omega) q i (nI_add i 1)
    refine aw rfl rfl ?_
    refine aw_c (v := nI 5) rfl (by decide) ?_
    refine aw_ine rfl (fun c136 => ?_) (fun c136 => ?_)
    · exact main (fun z => absurd z c136)
    · refine aw rfl rfl ?_
      refine aw_getf rfl (by repeat first | assumption | exact hg_eq | refine hg_ne (by first | assumption | omega) ?_) rfl ?_
      refine aw rfl rfl ?_
      refine aw_c (v := nI 1) rfl (by decide) ?_
      refine aw rfl rfl ?_
      refine aw_iald (k := top - 1) rfl (by repeat first | assumption | exact hg_eq | refine hg_ne (by first | assumption | omega) ?_) e1 (by omega) (by decide) ?_
      refine aw_ne rfl (fun c147 => ?_) (fun c147 => ?_)
      · exact main (fun _ => c147)
      · rw [if_pos ⟨c136, c147⟩] at q
        refine aw_c (v := nI 0) rfl (by decide) ?_
        exact aw_iret rfl rfl q
