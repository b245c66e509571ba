/-! ===== the class: now, can, brings, count, place ===== -/
section C1
variable {g : am_H} {T0 T1 T : Sd} {u0 u1 : Ua} {K : Ck} {rf : Nat → Nat} {p : Nat} {S : Nat → Nat} {u td nt cc : Nat} {P Z : Nat → Nat → Nat} {TD : Nat → Nat} {hd : Nat → Bool} {tp : Nat → Int32} {pc : Int32} {W : Nat → Lw}
variable {no na : Nat} {lf : Nat → Nat}
theorem ho_no {j o n m : Nat} {f : Nat → Int32} (hj : j < n) (ho : o < m) (hf : f j = nI m) (hn : n < 100) (hm : m < 100) : ¬ (nI j < 0 ∨ nI n ≤ nI j ∨ nI o < 0 ∨ (∃ k : Nat, nI j = nI k ∧ k < n ∧ f k ≤ nI o)) := by
  rintro (h | h | h | ⟨k, h1, h2, h3⟩)
  · exact nI_pos (by omega) h
  · exact nI_ge hj (by omega) h
  · exact nI_pos (by omega) h
  · have := (nI_eq (by omega) (by omega)).mp h1
    subst this
    rw [hf] at h3
    exact nI_ge ho (by omega) h3
theorem c_X10_canBeKicked {Q : Option Value → am_H → Prop} (hC : CS g T0 u0 T1 u1 K rf p T W S u P td TD hd Z nt tp pc cc) {j : Nat} (hj : j < T.1 3) (q1 : S 6 = 0 → mck T (S 0 * 3 + S 1) j = true → Q (some (.int (nI 1))) (ch g T0 u0 T1 u1 K rf)) (q0 : ¬ (S 6 = 0 ∧ mck T (S 0 * 3 + S 1) j = true) → Q (some (.int (nI 0))) (ch g T0 u0 T1 u1 K rf)) : AC am_P 1 22 143 [.ref 8, .int (nI j)] (ch g T0 u0 T1 u1 K rf) Q := by
  refine AC.of (ls := [_, _]) rfl ?_
  have hp := hC.cx.1
  have hG := hC.cx.2.1
  have hG0 := hG
  obtain ⟨⟨g0, g0x⟩, ⟨g1, g1x⟩, ⟨g2, g2x⟩, ⟨g3, g3x⟩, g4, ⟨g5, g5x⟩, g6, gsq, goc, gwt, gsp, gfr⟩ := hG
  obtain ⟨s0, s1, s2, s3, s4, s5, s6⟩ := hC.sc
  have hl96 := s0.1
  have hS6 : S 6 ≤ 2 := by rcases s6 with h | h | h <;> omega
  have hop : S 6 = 0 → hm T (S 0 * 3 + S 1) = false := fun z => by rcases s6 with h | h | h; omega; omega; exact h.1
  have e0 : (S 0 * 3 + S 1) / 3 = S 0 := by omega
  refine aw rfl rfl ?_
  refine aw_getf rfl cg_8 rfl ?_
  refine aw_getfE rfl cg_46 rfl (congrArg Value.int (hC.st 6 (by decide))) ?_
  refine aw_nen rfl (fun c7 => ?_) (fun c7 => ?_)
  · refine aw_c (v := nI 0) rfl (by decide) ?_
    exact aw_iret rfl rfl (q0 (fun y => c7 y.1))
  · refine aw rfl rfl ?_
    refine aw_getfE rfl cg_8 rfl (congrArg Value.ref hC.cx.2.2.2.2.2.1) ?_
    refine aw rfl rfl ?_
    refine aw_getf rfl cg_8 rfl ?_
    refine aw_getfE rfl cg_46 rfl (congrArg Value.int (hC.st 0 (by decide))) ?_
    refine aw rfl rfl ?_
    refine aw_cv (d1 := 0) (L1 := 0) rfl rfl (sa hp).1 rfl rfl (by decide) (by decide) (Nat.le_of_ble_eq_true rfl) (c_X7_canKickFrom (sa hp) (by omega) hj g3x (fun hck => ?_) (fun hck => ?_))
    · refine aw_eq rfl (fun c => absurd c (by decide)) (fun _ => ?_)
      refine aw_c (v := nI 1) rfl (by decide) ?_
      refine aw rfl rfl ?_
      exact aw_iret rfl rfl (q1 c7 ((nck_iff hG0 s0 (hop c7) hj).mp (by rw [e0]; exact hck)))
    · refine aw_eq rfl (fun _ => ?_) (fun c => absurd (by decide) c)
      refine aw_c (v := nI 0) rfl (by decide) ?_
      exact aw_iret rfl rfl (q0 (fun y => hck (by rw [← e0]; exact (nck_iff hG0 s0 (hop c7) hj).mpr y.2)))
theorem c_X10_can {Q : Option Value → am_H → Prop} (hC : CS g T0 u0 T1 u1 K rf p T W S u P td TD hd Z nt tp pc cc) (q : Q (some (.int (a_can T S))) (ch g T0 u0 T1 u1 K rf)) : AC am_P 2 43 176 [.ref 8] (ch g T0 u0 T1 u1 K rf) Q := by
  refine AC.of (ls := [_, _, _]) rfl ?_
  have hp := hC.cx.1
  have hG := hC.cx.2.1
  have hG0 := hG
  obtain ⟨⟨g0, g0x⟩, ⟨g1, g1x⟩, ⟨g2, g2x⟩, ⟨g3, g3x⟩, g4, ⟨g5, g5x⟩, g6, gsq, goc, gwt, gsp, gfr⟩ := hG
  obtain ⟨s0, s1, s2, s3, s4, s5, s6⟩ := hC.sc
  have hl96 := s0.1
  unfold a_can at q
  by_cases e6 : S 6 = 0
  · rw [if_pos e6] at q
    refine aw_c (v := nI 0) rfl (by decide) ?_
    refine aw_ist (ls' := [_, _, _]) rfl rfl ?_
    refine aw_c (v := nI 0) rfl (by decide) ?_
    refine aw_ist (ls' := [_, _, _]) rfl rfl ?_
    refine aw_loop (α := Unit) (ll := fun i y => [some (.ref 8), some (.int (cb (mck T (S 0 * 3 + S 1)) i)), some (.int (nI i))]) (hh := fun i y => (ch g T0 u0 T1 u1 K rf)) (I := fun i y => True) (N := T.1 3) (fun i y hi hI ih => ?_) (fun y hI => ?_) 0 () (Nat.zero_le _) trivial
    · skip
      refine aw rfl rfl ?_
      refine aw rfl rfl ?_
      refine aw_getfE rfl cg_8 rfl (congrArg Value.ref hC.cx.2.2.2.2.2.1) ?_
      refine aw_getf rfl (sa hp).1 rfl ?_
      refine aw_igen rfl (fun c12 => by omega) (fun c12 => ?_)
      refine aw rfl rfl ?_
      refine aw rfl rfl ?_
      refine aw_cv (d1 := 1) (L1 := 22) rfl rfl cg_8 rfl rfl (by decide) (by decide) (Nat.le_of_ble_eq_true rfl) (c_X10_canBeKicked hC hi (fun _ hz => ?_) (fun hz => ?_))
      · refine aw_eq rfl (fun c => absurd c (by decide)) (fun _ => ?_)
        refine aw rfl rfl ?_
        refine aw_c (v := nI 1) rfl (by decide) ?_
        refine aw rfl rfl ?_
        refine aw rfl rfl ?_
        refine aw rfl rfl ?_
        refine aw_ist (ls' := [_, _, _]) rfl rfl ?_
        refine aw_incn (c := 1) (ls' := [_, _, _]) rfl rfl (by decide) rfl ?_
        refine aw rfl rfl ?_
        have e5 : cb (mck T (S 0 * 3 + S 1)) (i + 1) = cb (mck T (S 0 * 3 + S 1)) i ||| (nI 1 <<< (nI i &&& 31)) := by rw [cb, hz]; rfl
        have ih := ih () trivial
        rw [e5] at ih
        exact ih
      · refine aw_eq rfl (fun _ => ?_) (fun c => absurd (by decide) c)
        refine aw_incn (c := 1) (ls' := [_, _, _]) rfl rfl (by decide) rfl ?_
        refine aw rfl rfl ?_
        have e5 : cb (mck T (S 0 * 3 + S 1)) (i + 1) = cb (mck T (S 0 * 3 + S 1)) i := by rw [cb, Bool.eq_false_iff.mpr (fun y => hz ⟨e6, y⟩)]; rfl
        have ih := ih () trivial
        rw [e5] at ih
        exact ih
    · skip
      refine aw rfl rfl ?_
      refine aw rfl rfl ?_
      refine aw_getfE rfl cg_8 rfl (congrArg Value.ref hC.cx.2.2.2.2.2.1) ?_
      refine aw_getf rfl (sa hp).1 rfl ?_
      refine aw_igen rfl (fun c12 => ?_) (fun c12 => by omega)
      refine aw rfl rfl ?_
      exact aw_iret rfl rfl q
  · rw [if_neg e6] at q
    refine aw_c (v := nI 0) rfl (by decide) ?_
    refine aw_ist (ls' := [_, _, _]) rfl rfl ?_
    refine aw_c (v := nI 0) rfl (by decide) ?_
    refine aw_ist (ls' := [_, _, _]) rfl rfl ?_
    refine aw_loop (α := Unit) (ll := fun i y => [some (.ref 8), some (.int (nI 0)), some (.int (nI i))]) (hh := fun i y => (ch g T0 u0 T1 u1 K rf)) (I := fun i y => True) (N := T.1 3) (fun i y hi hI ih => ?_) (fun y hI => ?_) 0 () (Nat.zero_le _) trivial
    · skip
      refine aw rfl rfl ?_
      refine aw rfl rfl ?_
      refine aw_getfE rfl cg_8 rfl (congrArg Value.ref hC.cx.2.2.2.2.2.1) ?_
      refine aw_getf rfl (sa hp).1 rfl ?_
      refine aw_igen rfl (fun c12 => by omega) (fun c12 => ?_)
      refine aw rfl rfl ?_
      refine aw rfl rfl ?_
      refine aw_cv (d1 := 1) (L1 := 22) rfl rfl cg_8 rfl rfl (by decide) (by decide) (Nat.le_of_ble_eq_true rfl) (c_X10_canBeKicked hC hi (fun z _ => absurd z e6) (fun hz => ?_))
      · refine aw_eq rfl (fun _ => ?_) (fun c => absurd (by decide) c)
        refine aw_incn (c := 1) (ls' := [_, _, _]) rfl rfl (by decide) rfl ?_
        refine aw rfl rfl ?_
        exact ih () trivial
    · skip
      refine aw rfl rfl ?_
      refine aw rfl rfl ?_
      refine aw_getfE rfl cg_8 rfl (congrArg Value.ref hC.cx.2.2.2.2.2.1) ?_
      refine aw_getf rfl (sa hp).1 rfl ?_
      refine aw_igen rfl (fun c12 => ?_) (fun c12 => by omega)
      refine aw rfl rfl ?_
      exact aw_iret rfl rfl q
theorem c_X10_now {Q : Option Value → am_H → Prop} (hC : CS g T0 u0 T1 u1 K rf p T W S u P td TD hd Z nt tp pc cc) {x : Int32} (q : Q (some (.int (a_now T S x))) (ch g T0 u0 T1 u1 K rf)) : AC am_P 1 20 137 [.ref 8, .int x] (ch g T0 u0 T1 u1 K rf) Q := by
  refine AC.of (ls := [_, _]) rfl ?_
  have hp := hC.cx.1
  have hG := hC.cx.2.1
  have hG0 := hG
  obtain ⟨⟨g0, g0x⟩, ⟨g1, g1x⟩, ⟨g2, g2x⟩, ⟨g3, g3x⟩, g4, ⟨g5, g5x⟩, g6, gsq, goc, gwt, gsp, gfr⟩ := hG
  obtain ⟨s0, s1, s2, s3, s4, s5, s6⟩ := hC.sc
  have hl96 := s0.1
  unfold a_now at q
  have hS6 : S 6 ≤ 2 := by rcases s6 with h | h | h <;> omega
  by_cases e0 : x = nI 0
  · subst e0
    rw [if_pos rfl] at q
    refine aw rfl rfl ?_
    refine aw_ts (z := 0) (tgt := 52) rfl (by decide) (by decide) ?_
    refine aw rfl rfl ?_
    refine aw_getf rfl cg_8 rfl ?_
    refine aw_getfE rfl cg_46 rfl (congrArg Value.int (hC.st 6 (by decide))) ?_
    refine aw_c (v := nI 2) rfl (by decide) ?_
    refine aw_inen rfl (fun c60 => ?_) (fun c60 => ?_)
    · refine aw rfl rfl ?_
      refine aw_getf rfl cg_8 rfl ?_
      refine aw_getfE rfl cg_46 rfl (congrArg Value.int (hC.st 0 (by decide))) ?_
      refine aw_cs (d1 := 0) (L1 := 0) rfl rfl (by decide) (by decide) (Nat.le_of_ble_eq_true rfl) (c_X10_alongOf (by omega) ?_)
      exact aw_iret rfl rfl (by rw [if_neg c60] at q; exact q)
    · refine aw_c (v := -2) rfl (by decide) ?_
      refine aw rfl rfl ?_
      exact aw_iret rfl rfl (by rw [if_pos c60] at q; exact q)
  by_cases e1 : x = nI 1
  · subst e1
    rw [if_neg (by decide), if_pos rfl] at q
    refine aw rfl rfl ?_
    refine aw_ts (z := 1) (tgt := 79) rfl (by decide) (by decide) ?_
    refine aw rfl rfl ?_
    refine aw_getf rfl cg_8 rfl ?_
    refine aw_getfE rfl cg_46 rfl (congrArg Value.int (hC.st 6 (by decide))) ?_
    refine aw_c (v := nI 2) rfl (by decide) ?_
    refine aw_inen rfl (fun c87 => ?_) (fun c87 => ?_)
    · refine aw rfl rfl ?_
      refine aw_getf rfl cg_8 rfl ?_
      refine aw_getfE rfl cg_46 rfl (congrArg Value.int (hC.st 0 (by decide))) ?_
      refine aw_cs (d1 := 0) (L1 := 0) rfl rfl (by decide) (by decide) (Nat.le_of_ble_eq_true rfl) (c_X10_acrossOf (by omega) ?_)
      exact aw_iret rfl rfl (by rw [if_neg c87] at q; exact q)
    · refine aw_c (v := -2) rfl (by decide) ?_
      refine aw rfl rfl ?_
      exact aw_iret rfl rfl (by rw [if_pos c87] at q; exact q)
  by_cases e2 : x = nI 2
  · subst e2
    rw [if_neg (by decide), if_neg (by decide), if_pos rfl] at q
    refine aw rfl rfl ?_
    refine aw_ts (z := 2) (tgt := 106) rfl (by decide) (by decide) ?_
    refine aw rfl rfl ?_
    refine aw_getf rfl cg_8 rfl ?_
    refine aw_getfE rfl cg_46 rfl (congrArg Value.int (hC.st 1 (by decide))) ?_
    exact aw_iret rfl rfl q
  by_cases e3 : x = nI 3
  · subst e3
    rw [if_neg (by decide), if_neg (by decide), if_neg (by decide), if_pos rfl] at q
    refine aw rfl rfl ?_
    refine aw_ts (z := 3) (tgt := 114) rfl (by decide) (by decide) ?_
    refine aw rfl rfl ?_
    refine aw_getf rfl cg_8 rfl ?_
    refine aw_getfE rfl cg_46 rfl (congrArg Value.int (hC.st 2 (by decide))) ?_
    exact aw_iret rfl rfl q
  by_cases e4 : x = nI 4
  · subst e4
    rw [if_neg (by decide), if_neg (by decide), if_neg (by decide), if_neg (by decide), if_pos rfl] at q
    refine aw rfl rfl ?_
    refine aw_ts (z := 4) (tgt := 122) rfl (by decide) (by decide) ?_
    refine aw rfl rfl ?_
    refine aw_getf rfl cg_8 rfl ?_
    refine aw_getfE rfl cg_46 rfl (congrArg Value.int (hC.st 4 (by decide))) ?_
    exact aw_iret rfl rfl q
  by_cases e5 : x = nI 5
  · subst e5
    rw [if_neg (by decide), if_neg (by decide), if_neg (by decide), if_neg (by decide), if_neg (by decide), if_pos rfl] at q
    refine aw rfl rfl ?_
    refine aw_ts (z := 5) (tgt := 130) rfl (by decide) (by decide) ?_
    refine aw rfl rfl ?_
    refine aw_getf rfl cg_8 rfl ?_
    refine aw_getfE rfl cg_46 rfl (congrArg Value.int (hC.st 4 (by decide))) ?_
    refine aw rfl rfl ?_
    refine aw_getfE rfl cg_8 rfl (congrArg Value.ref hC.cx.2.2.2.2.2.1) ?_
    refine aw_getf rfl (sa hp).1 rfl ?_
    refine aw_muln rfl ?_
    exact aw_iret rfl rfl q
  by_cases e6 : x = nI 6
  · subst e6
    rw [if_neg (by decide), if_neg (by decide), if_neg (by decide), if_neg (by decide), if_neg (by decide), if_neg (by decide), if_pos rfl] at q
    refine aw rfl rfl ?_
    refine aw_ts (z := 6) (tgt := 146) rfl (by decide) (by decide) ?_
    refine aw rfl rfl ?_
    refine aw_getf rfl cg_8 rfl ?_
    refine aw_getfE rfl cg_46 rfl (congrArg Value.int (hC.st 5 (by decide))) ?_
    exact aw_iret rfl rfl q
  by_cases e7 : x = nI 7
  · subst e7
    rw [if_neg (by decide), if_neg (by decide), if_neg (by decide), if_neg (by decide), if_neg (by decide), if_neg (by decide), if_neg (by decide), if_pos rfl] at q
    refine aw rfl rfl ?_
    refine aw_ts (z := 7) (tgt := 154) rfl (by decide) (by decide) ?_
    refine aw rfl rfl ?_
    refine aw_getf rfl cg_8 rfl ?_
    refine aw_getfE rfl cg_46 rfl (congrArg Value.int (hC.st 6 (by decide))) ?_
    exact aw_iret rfl rfl q
  by_cases e8 : x = nI 8
  · subst e8
    rw [if_neg (by decide), if_neg (by decide), if_neg (by decide), if_neg (by decide), if_neg (by decide), if_neg (by decide), if_neg (by decide), if_neg (by decide), if_pos rfl] at q
    refine aw rfl rfl ?_
    refine aw_ts (z := 8) (tgt := 162) rfl (by decide) (by decide) ?_
    refine aw rfl rfl ?_
    refine aw_getf rfl cg_8 rfl ?_
    refine aw_getfE rfl cg_46 rfl (congrArg Value.int (hC.st 3 (by decide))) ?_
    exact aw_iret rfl rfl q
  rw [if_neg e0, if_neg e1, if_neg e2, if_neg e3, if_neg e4, if_neg e5, if_neg e6, if_neg e7, if_neg e8] at q
  have ho := x_out (x := x) (n := 8) (by decide) (fun j hj => by
    have : j = 0 ∨ j = 1 ∨ j = 2 ∨ j = 3 ∨ j = 4 ∨ j = 5 ∨ j = 6 ∨ j = 7 ∨ j = 8 := by omega
    rcases this with rfl | rfl | rfl | rfl | rfl | rfl | rfl | rfl | rfl <;> assumption)
  refine aw rfl rfl ?_
  refine aw_ts (tgt := 170) rfl rfl (am_tg_out ho) ?_
  refine aw_c (v := -1) rfl (by decide) ?_
  exact aw_iret rfl rfl q
theorem c_X10_place {Q : Option Value → am_H → Prop} (hC : CS g T0 u0 T1 u1 K rf p T W S u P td TD hd Z nt tp pc cc) (q : Q (some (.int pc)) (ch g T0 u0 T1 u1 K rf)) : AC am_P 0 0 136 [.ref 8] (ch g T0 u0 T1 u1 K rf) Q := by
  refine AC.of (ls := [_]) rfl ?_
  refine aw rfl rfl ?_
  refine aw_getfE rfl cg_8 rfl (congrArg Value.int hC.pl) ?_
  exact aw_iret rfl rfl q
theorem c_X10_heldSlots {Q : Option Value → am_H → Prop} (hC : CS g T0 u0 T1 u1 K rf p T W S u P td TD hd Z nt tp pc cc) (q : Q (some (.int (nI (hdc hd)))) (ch g T0 u0 T1 u1 K rf)) : AC am_P 0 0 184 [.ref 8] (ch g T0 u0 T1 u1 K rf) Q := by
  refine AC.of (ls := [_, _, _]) rfl ?_
  have b1 : ∀ b : Bool, bI b = 0 → b = false := by decide
  have b2 : ∀ b : Bool, ¬ bI b = 0 → b = true := by decide
  refine aw_c (v := nI 0) rfl (by decide) ?_
  refine aw_ist (ls' := [_, _, _]) rfl rfl ?_
  refine aw_c (v := nI 0) rfl (by decide) ?_
  refine aw_ist (ls' := [_, _, _]) rfl rfl ?_
  refine aw_loop (α := Unit) (ll := fun i y => [some (.ref 8), some (.int (nI (ctN hd i))), some (.int (nI i))]) (hh := fun i y => (ch g T0 u0 T1 u1 K rf)) (I := fun i y => True) (N := 3) (fun i y hi hI ih => ?_) (fun y hI => ?_) 0 () (Nat.zero_le _) trivial
  · skip
    have hct := ctN_le (P := hd) i
    refine aw rfl rfl ?_
    refine aw rfl rfl ?_
    refine aw_getf rfl cg_8 rfl ?_
    refine aw_alen rfl cg_99 rfl ?_
    refine aw_igen rfl (fun c10 => by omega) (fun c10 => ?_)
    refine aw rfl rfl ?_
    refine aw_getf rfl cg_8 rfl ?_
    refine aw rfl rfl ?_
    refine aw_aald rfl cg_99 rfl (by omega) (by decide) (if_pos (by omega)) ?_
    refine aw_getfE rfl (cg_slot i hi) rfl (congrArg Value.int (hC.sl i hi).1) ?_
    refine aw_eq rfl (fun c22 => ?_) (fun c22 => ?_)
    · refine aw_incn (c := 1) (ls' := [_, _, _]) rfl rfl (by decide) rfl ?_
      refine aw rfl rfl ?_
      have e9 : ctN hd (i + 1) = ctN hd i := by show ctN hd i + (bif hd i then 1 else 0) = _; rw [b1 _ c22]; rfl
      have ih := ih () trivial
      rw [e9] at ih
      exact ih
    · refine aw_incn (c := 1) (ls' := [_, _, _]) rfl rfl (by decide) rfl ?_
      refine aw_incn (c := 1) (ls' := [_, _, _]) rfl rfl (by decide) rfl ?_
      refine aw rfl rfl ?_
      have e9 : ctN hd (i + 1) = ctN hd i + 1 := by show ctN hd i + (bif hd i then 1 else 0) = _; rw [b2 _ c22]; rfl
      have ih := ih () trivial
      rw [e9] at ih
      exact ih
  · skip
    refine aw rfl rfl ?_
    refine aw rfl rfl ?_
    refine aw_getf rfl cg_8 rfl ?_
    refine aw_alen rfl cg_99 rfl ?_
    refine aw_ige rfl (fun _ => ?_) (fun c => absurd (by decide) c)
    refine aw rfl rfl ?_
    exact aw_iret rfl rfl q
theorem c_X10_count {Q : Option Value → am_H → Prop} (hC : CS g T0 u0 T1 u1 K rf p T W S u P td TD hd Z nt tp pc cc) {x : Int32} (q : Q (some (.int (a_count T u td nt hd x))) (ch g T0 u0 T1 u1 K rf)) : AC am_P 2 43 183 [.ref 8, .int x] (ch g T0 u0 T1 u1 K rf) Q := by
  refine AC.of (ls := [_, _]) rfl ?_
  have hp := hC.cx.1
  have hG := hC.cx.2.1
  have hG0 := hG
  obtain ⟨⟨g0, g0x⟩, ⟨g1, g1x⟩, ⟨g2, g2x⟩, ⟨g3, g3x⟩, g4, ⟨g5, g5x⟩, g6, gsq, goc, gwt, gsp, gfr⟩ := hG
  obtain ⟨s0, s1, s2, s3, s4, s5, s6⟩ := hC.sc
  have hl96 := s0.1
  unfold a_count at q
  by_cases e0 : x = nI 0
  · subst e0
    rw [if_pos rfl] at q
    refine aw rfl rfl ?_
    refine aw_ts (z := 0) (tgt := 60) rfl (by decide) (by decide) ?_
    refine aw rfl rfl ?_
    refine aw_getfE rfl cg_8 rfl (congrArg Value.ref hC.cx.2.2.2.2.2.1) ?_
    refine aw_getf rfl (sa hp).1 rfl ?_
    exact aw_iret rfl rfl q
  by_cases e1 : x = nI 1
  · subst e1
    rw [if_neg (by decide), if_pos rfl] at q
    refine aw rfl rfl ?_
    refine aw_ts (z := 1) (tgt := 68) rfl (by decide) (by decide) ?_
    refine aw rfl rfl ?_
    refine aw_getfE rfl cg_8 rfl (congrArg Value.ref hC.cx.2.2.2.2.2.1) ?_
    refine aw_getf rfl (sa hp).1 rfl ?_
    exact aw_iret rfl rfl q
  by_cases e2 : x = nI 2
  · subst e2
    rw [if_neg (by decide), if_neg (by decide), if_pos rfl] at q
    refine aw rfl rfl ?_
    refine aw_ts (z := 2) (tgt := 76) rfl (by decide) (by decide) ?_
    refine aw rfl rfl ?_
    refine aw_getfE rfl cg_8 rfl (congrArg Value.ref hC.cx.2.2.2.2.2.1) ?_
    refine aw_getf rfl (sa hp).1 rfl ?_
    exact aw_iret rfl rfl q
  by_cases e3 : x = nI 3
  · subst e3
    rw [if_neg (by decide), if_neg (by decide), if_neg (by decide), if_pos rfl] at q
    refine aw rfl rfl ?_
    refine aw_ts (z := 3) (tgt := 84) rfl (by decide) (by decide) ?_
    refine aw rfl rfl ?_
    refine aw_getfE rfl cg_8 rfl (congrArg Value.ref hC.cx.2.2.2.2.2.1) ?_
    refine aw_getf rfl (sa hp).1 rfl ?_
    exact aw_iret rfl rfl q
  by_cases e4 : x = nI 4
  · subst e4
    rw [if_neg (by decide), if_neg (by decide), if_neg (by decide), if_neg (by decide), if_pos rfl] at q
    refine aw rfl rfl ?_
    refine aw_ts (z := 4) (tgt := 92) rfl (by decide) (by decide) ?_
    refine aw rfl rfl ?_
    refine aw_getfE rfl cg_8 rfl (congrArg Value.ref hC.cx.2.2.2.2.2.1) ?_
    refine aw_getf rfl (sa hp).1 rfl ?_
    exact aw_iret rfl rfl q
  by_cases e5 : x = nI 5
  · subst e5
    rw [if_neg (by decide), if_neg (by decide), if_neg (by decide), if_neg (by decide), if_neg (by decide), if_pos rfl] at q
    refine aw rfl rfl ?_
    refine aw_ts (z := 5) (tgt := 100) rfl (by decide) (by decide) ?_
    refine aw rfl rfl ?_
    refine aw_getfE rfl cg_8 rfl (congrArg Value.ref hC.cx.2.2.2.2.2.1) ?_
    refine aw_cv (d1 := 1) (L1 := 21) rfl rfl (sa hp).1 rfl rfl (by decide) (by decide) (Nat.le_of_ble_eq_true rfl) (c_X7_homeSquares (sa hp) ?_)
    exact aw_iret rfl rfl q
  by_cases e6 : x = nI 6
  · subst e6
    rw [if_neg (by decide), if_neg (by decide), if_neg (by decide), if_neg (by decide), if_neg (by decide), if_neg (by decide), if_pos rfl] at q
    refine aw rfl rfl ?_
    refine aw_ts (z := 6) (tgt := 108) rfl (by decide) (by decide) ?_
    refine aw rfl rfl ?_
    refine aw_getfE rfl cg_8 rfl (congrArg Value.int hC.ta.2.1) ?_
    exact aw_iret rfl rfl q
  by_cases e7 : x = nI 7
  · subst e7
    rw [if_neg (by decide), if_neg (by decide), if_neg (by decide), if_neg (by decide), if_neg (by decide), if_neg (by decide), if_neg (by decide), if_pos rfl] at q
    refine aw rfl rfl ?_
    refine aw_ts (z := 7) (tgt := 113) rfl (by decide) (by decide) ?_
    refine aw rfl rfl ?_
    refine aw_getf rfl cg_8 rfl ?_
    refine aw_getfE rfl cg_47 rfl (congrArg Value.int hC.ps.2.1) ?_
    exact aw_iret rfl rfl q
  by_cases e8 : x = nI 8
  · subst e8
    rw [if_neg (by decide), if_neg (by decide), if_neg (by decide), if_neg (by decide), if_neg (by decide), if_neg (by decide), if_neg (by decide), if_neg (by decide), if_pos rfl] at q
    refine aw rfl rfl ?_
    refine aw_ts (z := 8) (tgt := 121) rfl (by decide) (by decide) ?_
    refine aw rfl rfl ?_
    refine aw_getf rfl cg_8 rfl ?_
    refine aw_getfE rfl cg_113 rfl (congrArg Value.int hC.tdr.2.1) ?_
    exact aw_iret rfl rfl q
  by_cases e9 : x = nI 9
  · subst e9
    rw [if_neg (by decide), if_neg (by decide), if_neg (by decide), if_neg (by decide), if_neg (by decide), if_neg (by decide), if_neg (by decide), if_neg (by decide), if_neg (by decide), if_pos rfl] at q
    refine aw rfl rfl ?_
    refine aw_ts (z := 9) (tgt := 129) rfl (by decide) (by decide) ?_
    refine aw rfl rfl ?_
    refine aw_cv (d1 := 0) (L1 := 0) rfl rfl cg_8 rfl rfl (by decide) (by decide) (Nat.le_of_ble_eq_true rfl) (c_X10_heldSlots hC ?_)
    exact aw_iret rfl rfl q
  by_cases e10 : x = nI 10
  · subst e10
    rw [if_neg (by decide), if_neg (by decide), if_neg (by decide), if_neg (by decide), if_neg (by decide), if_neg (by decide), if_neg (by decide), if_neg (by decide), if_neg (by decide), if_neg (by decide), if_pos rfl] at q
    refine aw rfl rfl ?_
    refine aw_ts (z := 10) (tgt := 134) rfl (by decide) (by decide) ?_
    refine aw rfl rfl ?_
    refine aw_getfE rfl cg_8 rfl (congrArg Value.ref hC.cx.2.2.2.2.2.1) ?_
    refine aw_cv (d1 := 0) (L1 := 0) rfl rfl (sa hp).1 rfl rfl (by decide) (by decide) (Nat.le_of_ble_eq_true rfl) (c_X7_allOutcomes (sa hp) hG0 ?_)
    exact aw_iret rfl rfl q
  rw [if_neg e0, if_neg e1, if_neg e2, if_neg e3, if_neg e4, if_neg e5, if_neg e6, if_neg e7, if_neg e8, if_neg e9, if_neg e10] at q
  have ho := x_out (x := x) (n := 10) (by decide) (fun j hj => by
    have : j = 0 ∨ j = 1 ∨ j = 2 ∨ j = 3 ∨ j = 4 ∨ j = 5 ∨ j = 6 ∨ j = 7 ∨ j = 8 ∨ j = 9 ∨ j = 10 := by omega
    rcases this with rfl | rfl | rfl | rfl | rfl | rfl | rfl | rfl | rfl | rfl | rfl <;> assumption)
  refine aw rfl rfl ?_
  refine aw_ts (tgt := 142) rfl rfl (am_tg_out ho) ?_
  refine aw_c (v := -1) rfl (by decide) ?_
  exact aw_iret rfl rfl q
theorem c_X10_brings {Q : Option Value → am_H → Prop} (hC : CS g T0 u0 T1 u1 K rf p T W S u P td TD hd Z nt tp pc cc) {x y z : Int32} (q : ∀ u0 u1, Q (some (.int (a_brings T (lwf W) S x y z))) (ch g T0 u0 T1 u1 K rf)) : AC am_P 4 100 152 [.ref 8, .int x, .int y, .int z] (ch g T0 u0 T1 u1 K rf) Q := by
  refine AC.of (ls := [_, _, _, _, _, _, _]) rfl ?_
  have hp := hC.cx.1
  have hG := hC.cx.2.1
  have hG0 := hG
  obtain ⟨⟨g0, g0x⟩, ⟨g1, g1x⟩, ⟨g2, g2x⟩, ⟨g3, g3x⟩, g4, ⟨g5, g5x⟩, g6, gsq, goc, gwt, gsp, gfr⟩ := hG
  obtain ⟨s0, s1, s2, s3, s4, s5, s6⟩ := hC.sc
  have hl96 := s0.1
  unfold a_brings at q
  by_cases hx : nI 0 ≤ x ∧ x < nI (T.1 3)
  · obtain ⟨j, rfl, hj⟩ := n_of2 hx.1 hx.2 (by omega)
    rw [kin_yes g3x hj] at q
    have hg := goc j hj
    have ho6 := hg.2.2.1
    by_cases hy : nI 0 ≤ y ∧ y < nI (oc T j)
    · obtain ⟨o, rfl, ho⟩ := n_of2 hy.1 hy.2 (by omega)
      rw [if_pos hy] at q
      by_cases hz : nI 0 ≤ z ∧ z ≤ nI 3
      · obtain ⟨w, rfl, _, hw⟩ := n_of3 hz.1 hz.2 (by decide) (by decide)
        rw [sp_in (Nat.zero_le _) hw (by decide), nI_clamp (by omega)] at q
        have hld := n_land_lie (LW := lwf W) (x := nI (S 4 * T.1 5)) hG0 s0 (Or.inr ⟨j, o, hj, ho, rfl⟩)
        by_cases w0 : w = 0
        · subst w0
          rcases hld with yl | ⟨m, hm, yl⟩
          · skip
            refine aw rfl rfl ?_
            refine aw_getfE rfl cg_8 rfl (congrArg Value.ref hC.cx.2.2.2.2.2.1) ?_
            refine aw rfl rfl ?_
            refine aw rfl rfl ?_
            refine aw_cv (d1 := 0) (L1 := 0) rfl rfl (sa hp).1 rfl rfl (by decide) (by decide) (Nat.le_of_ble_eq_true rfl) (c_X7_hasOutcome (sa hp) g3x (fun k9 e9 h9 _ _ => ?_) (fun w9 => absurd w9 (ho_no hj ho hg.1 (by omega) (by omega))))
            · refine aw_eq rfl (fun c => absurd c (by decide)) (fun _ => ?_)
              refine aw rfl rfl ?_
              refine aw_lt rfl (fun c => absurd c (by decide)) (fun _ => ?_)
              refine aw rfl rfl ?_
              refine aw_c (v := nI 3) rfl (by decide) ?_
              refine aw_igt rfl (fun c => absurd c (by decide)) (fun _ => ?_)
              refine aw rfl rfl ?_
              refine aw rfl rfl ?_
              refine aw_cv (d1 := 1) (L1 := 22) rfl rfl cg_8 rfl rfl (by decide) (by decide) (Nat.le_of_ble_eq_true rfl) (c_X10_canBeKicked hC hj (fun h6 hk => ?_) (fun hk => ?_))
              · refine aw_ne rfl (fun _ => ?_) (fun c => absurd c (by decide))
                refine aw rfl rfl ?_
                refine aw_c (v := nI 6) rfl (by decide) ?_
                refine aw_muln rfl ?_
                refine aw rfl rfl ?_
                refine aw_addn rfl ?_
                refine aw_ist (ls' := [_, _, _, _, _, _, _]) rfl rfl ?_
                rw [Nat.mul_comm j 6]
                refine aw rfl rfl ?_
                refine aw_getfE rfl cg_8 rfl (congrArg Value.ref hC.cx.2.2.2.2.2.1) ?_
                refine aw rfl rfl ?_
                refine aw_getf rfl cg_8 rfl ?_
                refine aw_cv (d1 := 1) (L1 := 21) rfl rfl cg_46 rfl rfl (by decide) (by decide) (Nat.le_of_ble_eq_true rfl) (c_X6_lie hC.st ?_)
                refine aw rfl rfl ?_
                refine aw rfl rfl ?_
                refine aw_getf rfl cg_8 rfl ?_
                refine aw_getfE rfl cg_46 rfl (congrArg Value.int (hC.st 4 (by decide))) ?_
                refine aw rfl rfl ?_
                refine aw_getfE rfl cg_8 rfl (congrArg Value.ref hC.cx.2.2.2.2.2.1) ?_
                refine aw_getf rfl (sa hp).1 rfl ?_
                refine aw_muln rfl ?_
                refine aw_cv (d1 := 3) (L1 := 70) rfl rfl (sa hp).1 rfl rfl (by decide) (by decide) (Nat.le_of_ble_eq_true rfl) (c_land (LW := lwf W) hp hG0 hC.cx.2.2.1 hl96 (Or.inr ⟨j, o, hj, ho, rfl⟩) (fun u0 u1 => ?_))
                · rw [yl]
                  have hC := hC.ua (v0 := u0) (v1 := u1)
                  refine aw_ist (ls' := [_, _, _, _, _, _, _]) rfl rfl ?_
                  refine aw rfl rfl ?_
                  refine aw_c (v := nI 3) rfl (by decide) ?_
                  refine aw_ine rfl (fun _ => ?_) (fun c => absurd c (by decide))
                  refine aw rfl rfl ?_
                  refine aw_c (v := -1) rfl (by decide) ?_
                  refine aw_ine rfl (fun c => absurd (by decide) c) (fun _ => ?_)
                  refine aw rfl rfl ?_
                  refine aw_getf rfl cg_8 rfl ?_
                  refine aw_getfE rfl cg_46 rfl (congrArg Value.int (hC.st 2 (by decide))) ?_
                  refine aw_nen rfl (fun c102 => ?_) (fun c102 => ?_)
                  · refine aw rfl rfl ?_
                    refine aw_c (v := -1) rfl (by decide) ?_
                    refine aw_ine rfl (fun c => absurd (by decide) c) (fun _ => ?_)
                    refine aw rfl rfl ?_
                    refine aw_getf rfl cg_8 rfl ?_
                    refine aw_cv (d1 := 1) (L1 := 21) rfl rfl cg_46 rfl rfl (by decide) (by decide) (Nat.le_of_ble_eq_true rfl) (c_X6_lie hC.st ?_)
                    refine aw rfl rfl ?_
                    refine aw_ist (ls' := [_, _, _, _, _, _, _]) rfl rfl ?_
                    refine aw rfl rfl ?_
                    refine aw_c (v := nI 2) rfl (by decide) ?_
                    refine aw_ine rfl (fun _ => ?_) (fun c => absurd c (by decide))
                    refine aw rfl rfl ?_
                    refine aw_ne rfl (fun c => absurd (by decide) c) (fun _ => ?_)
                    refine aw rfl rfl ?_
                    refine aw_c (v := nI 3) rfl (by decide) ?_
                    refine aw_divn rfl (by omega) (by omega) (by omega) ?_
                    refine aw_cs (d1 := 0) (L1 := 0) rfl rfl (by decide) (by decide) (Nat.le_of_ble_eq_true rfl) (c_X10_alongOf (by omega) ?_)
                    refine aw rfl rfl ?_
                    exact aw_iret rfl rfl (by rw [if_pos ⟨h6, hk⟩] at q; unfold brV at q; rw [if_neg (by decide), if_neg (fun yy => c102 yy.2), if_pos (show lnd T (lwf W) S (6 * j + o) = -1 from yl)] at q; exact q _ _)
                  · refine aw_c (v := -2) rfl (by decide) ?_
                    exact aw_iret rfl rfl (by rw [if_pos ⟨h6, hk⟩] at q; unfold brV at q; rw [if_neg (by decide), if_pos ⟨(show lnd T (lwf W) S (6 * j + o) = -1 from yl), c102⟩] at q; exact q _ _)
              · refine aw_ne rfl (fun c => absurd (by decide) c) (fun _ => ?_)
                refine aw_c (v := -1) rfl (by decide) ?_
                exact aw_iret rfl rfl (by rw [if_neg (fun y => hk y)] at q; exact q _ _)
          · have hm96 := hm.1
            refine aw rfl rfl ?_
            refine aw_getfE rfl cg_8 rfl (congrArg Value.ref hC.cx.2.2.2.2.2.1) ?_
            refine aw rfl rfl ?_
            refine aw rfl rfl ?_
            refine aw_cv (d1 := 0) (L1 := 0) rfl rfl (sa hp).1 rfl rfl (by decide) (by decide) (Nat.le_of_ble_eq_true rfl) (c_X7_hasOutcome (sa hp) g3x (fun k9 e9 h9 _ _ => ?_) (fun w9 => absurd w9 (ho_no hj ho hg.1 (by omega) (by omega))))
            · refine aw_eq rfl (fun c => absurd c (by decide)) (fun _ => ?_)
              refine aw rfl rfl ?_
              refine aw_lt rfl (fun c => absurd c (by decide)) (fun _ => ?_)
              refine aw rfl rfl ?_
              refine aw_c (v := nI 3) rfl (by decide) ?_
              refine aw_igt rfl (fun c => absurd c (by decide)) (fun _ => ?_)
              refine aw rfl rfl ?_
              refine aw rfl rfl ?_
              refine aw_cv (d1 := 1) (L1 := 22) rfl rfl cg_8 rfl rfl (by decide) (by decide) (Nat.le_of_ble_eq_true rfl) (c_X10_canBeKicked hC hj (fun h6 hk => ?_) (fun hk => ?_))
              · refine aw_ne rfl (fun _ => ?_) (fun c => absurd c (by decide))
                refine aw rfl rfl ?_
                refine aw_c (v := nI 6) rfl (by decide) ?_
                refine aw_muln rfl ?_
                refine aw rfl rfl ?_
                refine aw_addn rfl ?_
                refine aw_ist (ls' := [_, _, _, _, _, _, _]) rfl rfl ?_
                rw [Nat.mul_comm j 6]
                refine aw rfl rfl ?_
                refine aw_getfE rfl cg_8 rfl (congrArg Value.ref hC.cx.2.2.2.2.2.1) ?_
                refine aw rfl rfl ?_
                refine aw_getf rfl cg_8 rfl ?_
                refine aw_cv (d1 := 1) (L1 := 21) rfl rfl cg_46 rfl rfl (by decide) (by decide) (Nat.le_of_ble_eq_true rfl) (c_X6_lie hC.st ?_)
                refine aw rfl rfl ?_
                refine aw rfl rfl ?_
                refine aw_getf rfl cg_8 rfl ?_
                refine aw_getfE rfl cg_46 rfl (congrArg Value.int (hC.st 4 (by decide))) ?_
                refine aw rfl rfl ?_
                refine aw_getfE rfl cg_8 rfl (congrArg Value.ref hC.cx.2.2.2.2.2.1) ?_
                refine aw_getf rfl (sa hp).1 rfl ?_
                refine aw_muln rfl ?_
                refine aw_cv (d1 := 3) (L1 := 70) rfl rfl (sa hp).1 rfl rfl (by decide) (by decide) (Nat.le_of_ble_eq_true rfl) (c_land (LW := lwf W) hp hG0 hC.cx.2.2.1 hl96 (Or.inr ⟨j, o, hj, ho, rfl⟩) (fun u0 u1 => ?_))
                rw [yl]
                have hC := hC.ua (v0 := u0) (v1 := u1)
                refine aw_ist (ls' := [_, _, _, _, _, _, _]) rfl rfl ?_
                refine aw rfl rfl ?_
                refine aw_c (v := nI 3) rfl (by decide) ?_
                refine aw_ine rfl (fun _ => ?_) (fun c => absurd c (by decide))
                refine aw rfl rfl ?_
                refine aw_c (v := -1) rfl (by decide) ?_
                refine aw_inem rfl ?_
                refine aw rfl rfl ?_
                refine aw_c (v := -1) rfl (by decide) ?_
                refine aw_inem rfl ?_
                refine aw rfl rfl ?_
                refine aw_ist (ls' := [_, _, _, _, _, _, _]) rfl rfl ?_
                refine aw rfl rfl ?_
                refine aw_c (v := nI 2) rfl (by decide) ?_
                refine aw_ine rfl (fun _ => ?_) (fun c => absurd c (by decide))
                refine aw rfl rfl ?_
                refine aw_ne rfl (fun c => absurd (by decide) c) (fun _ => ?_)
                refine aw rfl rfl ?_
                refine aw_c (v := nI 3) rfl (by decide) ?_
                refine aw_divn rfl (by omega) (by omega) (by omega) ?_
                refine aw_cs (d1 := 0) (L1 := 0) rfl rfl (by decide) (by decide) (Nat.le_of_ble_eq_true rfl) (c_X10_alongOf (by omega) ?_)
                refine aw rfl rfl ?_
                exact aw_iret rfl rfl (by rw [if_pos ⟨h6, hk⟩] at q; unfold brV at q; rw [if_neg (by decide), if_neg (fun yy => (show ¬ lnd T (lwf W) S (6 * j + o) = -1 from by rw [show lnd T (lwf W) S (6 * j + o) = nI m from yl]; exact n_m1 (by omega)) yy.1), if_neg (show ¬ lnd T (lwf W) S (6 * j + o) = -1 from by rw [show lnd T (lwf W) S (6 * j + o) = nI m from yl]; exact n_m1 (by omega)), show lnd T (lwf W) S (6 * j + o) = nI m from yl, nI_clamp (by omega)] at q; exact q _ _)
              · refine aw_ne rfl (fun c => absurd (by decide) c) (fun _ => ?_)
                refine aw_c (v := -1) rfl (by decide) ?_
                exact aw_iret rfl rfl (by rw [if_neg (fun y => hk y)] at q; exact q _ _)
        by_cases w1 : w = 1
        · subst w1
          rcases hld with yl | ⟨m, hm, yl⟩
          · skip
            refine aw rfl rfl ?_
            refine aw_getfE rfl cg_8 rfl (congrArg Value.ref hC.cx.2.2.2.2.2.1) ?_
            refine aw rfl rfl ?_
            refine aw rfl rfl ?_
            refine aw_cv (d1 := 0) (L1 := 0) rfl rfl (sa hp).1 rfl rfl (by decide) (by decide) (Nat.le_of_ble_eq_true rfl) (c_X7_hasOutcome (sa hp) g3x (fun k9 e9 h9 _ _ => ?_) (fun w9 => absurd w9 (ho_no hj ho hg.1 (by omega) (by omega))))
            · refine aw_eq rfl (fun c => absurd c (by decide)) (fun _ => ?_)
              refine aw rfl rfl ?_
              refine aw_lt rfl (fun c => absurd c (by decide)) (fun _ => ?_)
              refine aw rfl rfl ?_
              refine aw_c (v := nI 3) rfl (by decide) ?_
              refine aw_igt rfl (fun c => absurd c (by decide)) (fun _ => ?_)
              refine aw rfl rfl ?_
              refine aw rfl rfl ?_
              refine aw_cv (d1 := 1) (L1 := 22) rfl rfl cg_8 rfl rfl (by decide) (by decide) (Nat.le_of_ble_eq_true rfl) (c_X10_canBeKicked hC hj (fun h6 hk => ?_) (fun hk => ?_))
              · refine aw_ne rfl (fun _ => ?_) (fun c => absurd c (by decide))
                refine aw rfl rfl ?_
                refine aw_c (v := nI 6) rfl (by decide) ?_
                refine aw_muln rfl ?_
                refine aw rfl rfl ?_
                refine aw_addn rfl ?_
                refine aw_ist (ls' := [_, _, _, _, _, _, _]) rfl rfl ?_
                rw [Nat.mul_comm j 6]
                refine aw rfl rfl ?_
                refine aw_getfE rfl cg_8 rfl (congrArg Value.ref hC.cx.2.2.2.2.2.1) ?_
                refine aw rfl rfl ?_
                refine aw_getf rfl cg_8 rfl ?_
                refine aw_cv (d1 := 1) (L1 := 21) rfl rfl cg_46 rfl rfl (by decide) (by decide) (Nat.le_of_ble_eq_true rfl) (c_X6_lie hC.st ?_)
                refine aw rfl rfl ?_
                refine aw rfl rfl ?_
                refine aw_getf rfl cg_8 rfl ?_
                refine aw_getfE rfl cg_46 rfl (congrArg Value.int (hC.st 4 (by decide))) ?_
                refine aw rfl rfl ?_
                refine aw_getfE rfl cg_8 rfl (congrArg Value.ref hC.cx.2.2.2.2.2.1) ?_
                refine aw_getf rfl (sa hp).1 rfl ?_
                refine aw_muln rfl ?_
                refine aw_cv (d1 := 3) (L1 := 70) rfl rfl (sa hp).1 rfl rfl (by decide) (by decide) (Nat.le_of_ble_eq_true rfl) (c_land (LW := lwf W) hp hG0 hC.cx.2.2.1 hl96 (Or.inr ⟨j, o, hj, ho, rfl⟩) (fun u0 u1 => ?_))
                · rw [yl]
                  have hC := hC.ua (v0 := u0) (v1 := u1)
                  refine aw_ist (ls' := [_, _, _, _, _, _, _]) rfl rfl ?_
                  refine aw rfl rfl ?_
                  refine aw_c (v := nI 3) rfl (by decide) ?_
                  refine aw_ine rfl (fun _ => ?_) (fun c => absurd c (by decide))
                  refine aw rfl rfl ?_
                  refine aw_c (v := -1) rfl (by decide) ?_
                  refine aw_ine rfl (fun c => absurd (by decide) c) (fun _ => ?_)
                  refine aw rfl rfl ?_
                  refine aw_getf rfl cg_8 rfl ?_
                  refine aw_getfE rfl cg_46 rfl (congrArg Value.int (hC.st 2 (by decide))) ?_
                  refine aw_nen rfl (fun c102 => ?_) (fun c102 => ?_)
                  · refine aw rfl rfl ?_
                    refine aw_c (v := -1) rfl (by decide) ?_
                    refine aw_ine rfl (fun c => absurd (by decide) c) (fun _ => ?_)
                    refine aw rfl rfl ?_
                    refine aw_getf rfl cg_8 rfl ?_
                    refine aw_cv (d1 := 1) (L1 := 21) rfl rfl cg_46 rfl rfl (by decide) (by decide) (Nat.le_of_ble_eq_true rfl) (c_X6_lie hC.st ?_)
                    refine aw rfl rfl ?_
                    refine aw_ist (ls' := [_, _, _, _, _, _, _]) rfl rfl ?_
                    refine aw rfl rfl ?_
                    refine aw_c (v := nI 2) rfl (by decide) ?_
                    refine aw_ine rfl (fun _ => ?_) (fun c => absurd c (by decide))
                    refine aw rfl rfl ?_
                    refine aw_ne rfl (fun _ => ?_) (fun c => absurd c (by decide))
                    refine aw rfl rfl ?_
                    refine aw_c (v := nI 3) rfl (by decide) ?_
                    refine aw_divn rfl (by omega) (by omega) (by omega) ?_
                    refine aw_cs (d1 := 0) (L1 := 0) rfl rfl (by decide) (by decide) (Nat.le_of_ble_eq_true rfl) (c_X10_acrossOf (by omega) ?_)
                    exact aw_iret rfl rfl (by rw [if_pos ⟨h6, hk⟩] at q; unfold brV at q; rw [if_neg (by decide), if_neg (fun yy => c102 yy.2), if_pos (show lnd T (lwf W) S (6 * j + o) = -1 from yl)] at q; exact q _ _)
                  · refine aw_c (v := -2) rfl (by decide) ?_
                    exact aw_iret rfl rfl (by rw [if_pos ⟨h6, hk⟩] at q; unfold brV at q; rw [if_neg (by decide), if_pos ⟨(show lnd T (lwf W) S (6 * j + o) = -1 from yl), c102⟩] at q; exact q _ _)
              · refine aw_ne rfl (fun c => absurd (by decide) c) (fun _ => ?_)
                refine aw_c (v := -1) rfl (by decide) ?_
                exact aw_iret rfl rfl (by rw [if_neg (fun y => hk y)] at q; exact q _ _)
          · have hm96 := hm.1
            refine aw rfl rfl ?_
            refine aw_getfE rfl cg_8 rfl (congrArg Value.ref hC.cx.2.2.2.2.2.1) ?_
            refine aw rfl rfl ?_
            refine aw rfl rfl ?_
            refine aw_cv (d1 := 0) (L1 := 0) rfl rfl (sa hp).1 rfl rfl (by decide) (by decide) (Nat.le_of_ble_eq_true rfl) (c_X7_hasOutcome (sa hp) g3x (fun k9 e9 h9 _ _ => ?_) (fun w9 => absurd w9 (ho_no hj ho hg.1 (by omega) (by omega))))
            · refine aw_eq rfl (fun c => absurd c (by decide)) (fun _ => ?_)
              refine aw rfl rfl ?_
              refine aw_lt rfl (fun c => absurd c (by decide)) (fun _ => ?_)
              refine aw rfl rfl ?_
              refine aw_c (v := nI 3) rfl (by decide) ?_
              refine aw_igt rfl (fun c => absurd c (by decide)) (fun _ => ?_)
              refine aw rfl rfl ?_
              refine aw rfl rfl ?_
              refine aw_cv (d1 := 1) (L1 := 22) rfl rfl cg_8 rfl rfl (by decide) (by decide) (Nat.le_of_ble_eq_true rfl) (c_X10_canBeKicked hC hj (fun h6 hk => ?_) (fun hk => ?_))
              · refine aw_ne rfl (fun _ => ?_) (fun c => absurd c (by decide))
                refine aw rfl rfl ?_
                refine aw_c (v := nI 6) rfl (by decide) ?_
                refine aw_muln rfl ?_
                refine aw rfl rfl ?_
                refine aw_addn rfl ?_
                refine aw_ist (ls' := [_, _, _, _, _, _, _]) rfl rfl ?_
                rw [Nat.mul_comm j 6]
                refine aw rfl rfl ?_
                refine aw_getfE rfl cg_8 rfl (congrArg Value.ref hC.cx.2.2.2.2.2.1) ?_
                refine aw rfl rfl ?_
                refine aw_getf rfl cg_8 rfl ?_
                refine aw_cv (d1 := 1) (L1 := 21) rfl rfl cg_46 rfl rfl (by decide) (by decide) (Nat.le_of_ble_eq_true rfl) (c_X6_lie hC.st ?_)
                refine aw rfl rfl ?_
                refine aw rfl rfl ?_
                refine aw_getf rfl cg_8 rfl ?_
                refine aw_getfE rfl cg_46 rfl (congrArg Value.int (hC.st 4 (by decide))) ?_
                refine aw rfl rfl ?_
                refine aw_getfE rfl cg_8 rfl (congrArg Value.ref hC.cx.2.2.2.2.2.1) ?_
                refine aw_getf rfl (sa hp).1 rfl ?_
                refine aw_muln rfl ?_
                refine aw_cv (d1 := 3) (L1 := 70) rfl rfl (sa hp).1 rfl rfl (by decide) (by decide) (Nat.le_of_ble_eq_true rfl) (c_land (LW := lwf W) hp hG0 hC.cx.2.2.1 hl96 (Or.inr ⟨j, o, hj, ho, rfl⟩) (fun u0 u1 => ?_))
                rw [yl]
                have hC := hC.ua (v0 := u0) (v1 := u1)
                refine aw_ist (ls' := [_, _, _, _, _, _, _]) rfl rfl ?_
                refine aw rfl rfl ?_
                refine aw_c (v := nI 3) rfl (by decide) ?_
                refine aw_ine rfl (fun _ => ?_) (fun c => absurd c (by decide))
                refine aw rfl rfl ?_
                refine aw_c (v := -1) rfl (by decide) ?_
                refine aw_inem rfl ?_
                refine aw rfl rfl ?_
                refine aw_c (v := -1) rfl (by decide) ?_
                refine aw_inem rfl ?_
                refine aw rfl rfl ?_
                refine aw_ist (ls' := [_, _, _, _, _, _, _]) rfl rfl ?_
                refine aw rfl rfl ?_
                refine aw_c (v := nI 2) rfl (by decide) ?_
                refine aw_ine rfl (fun _ => ?_) (fun c => absurd c (by decide))
                refine aw rfl rfl ?_
                refine aw_ne rfl (fun _ => ?_) (fun c => absurd c (by decide))
                refine aw rfl rfl ?_
                refine aw_c (v := nI 3) rfl (by decide) ?_
                refine aw_divn rfl (by omega) (by omega) (by omega) ?_
                refine aw_cs (d1 := 0) (L1 := 0) rfl rfl (by decide) (by decide) (Nat.le_of_ble_eq_true rfl) (c_X10_acrossOf (by omega) ?_)
                exact aw_iret rfl rfl (by rw [if_pos ⟨h6, hk⟩] at q; unfold brV at q; rw [if_neg (by decide), if_neg (fun yy => (show ¬ lnd T (lwf W) S (6 * j + o) = -1 from by rw [show lnd T (lwf W) S (6 * j + o) = nI m from yl]; exact n_m1 (by omega)) yy.1), if_neg (show ¬ lnd T (lwf W) S (6 * j + o) = -1 from by rw [show lnd T (lwf W) S (6 * j + o) = nI m from yl]; exact n_m1 (by omega)), show lnd T (lwf W) S (6 * j + o) = nI m from yl, nI_clamp (by omega)] at q; exact q _ _)
              · refine aw_ne rfl (fun c => absurd (by decide) c) (fun _ => ?_)
                refine aw_c (v := -1) rfl (by decide) ?_
                exact aw_iret rfl rfl (by rw [if_neg (fun y => hk y)] at q; exact q _ _)
        by_cases w2 : w = 2
        · subst w2
          rcases hld with yl | ⟨m, hm, yl⟩
          · skip
            refine aw rfl rfl ?_
            refine aw_getfE rfl cg_8 rfl (congrArg Value.ref hC.cx.2.2.2.2.2.1) ?_
            refine aw rfl rfl ?_
            refine aw rfl rfl ?_
            refine aw_cv (d1 := 0) (L1 := 0) rfl rfl (sa hp).1 rfl rfl (by decide) (by decide) (Nat.le_of_ble_eq_true rfl) (c_X7_hasOutcome (sa hp) g3x (fun k9 e9 h9 _ _ => ?_) (fun w9 => absurd w9 (ho_no hj ho hg.1 (by omega) (by omega))))
            · refine aw_eq rfl (fun c => absurd c (by decide)) (fun _ => ?_)
              refine aw rfl rfl ?_
              refine aw_lt rfl (fun c => absurd c (by decide)) (fun _ => ?_)
              refine aw rfl rfl ?_
              refine aw_c (v := nI 3) rfl (by decide) ?_
              refine aw_igt rfl (fun c => absurd c (by decide)) (fun _ => ?_)
              refine aw rfl rfl ?_
              refine aw rfl rfl ?_
              refine aw_cv (d1 := 1) (L1 := 22) rfl rfl cg_8 rfl rfl (by decide) (by decide) (Nat.le_of_ble_eq_true rfl) (c_X10_canBeKicked hC hj (fun h6 hk => ?_) (fun hk => ?_))
              · refine aw_ne rfl (fun _ => ?_) (fun c => absurd c (by decide))
                refine aw rfl rfl ?_
                refine aw_c (v := nI 6) rfl (by decide) ?_
                refine aw_muln rfl ?_
                refine aw rfl rfl ?_
                refine aw_addn rfl ?_
                refine aw_ist (ls' := [_, _, _, _, _, _, _]) rfl rfl ?_
                rw [Nat.mul_comm j 6]
                refine aw rfl rfl ?_
                refine aw_getfE rfl cg_8 rfl (congrArg Value.ref hC.cx.2.2.2.2.2.1) ?_
                refine aw rfl rfl ?_
                refine aw_getf rfl cg_8 rfl ?_
                refine aw_cv (d1 := 1) (L1 := 21) rfl rfl cg_46 rfl rfl (by decide) (by decide) (Nat.le_of_ble_eq_true rfl) (c_X6_lie hC.st ?_)
                refine aw rfl rfl ?_
                refine aw rfl rfl ?_
                refine aw_getf rfl cg_8 rfl ?_
                refine aw_getfE rfl cg_46 rfl (congrArg Value.int (hC.st 4 (by decide))) ?_
                refine aw rfl rfl ?_
                refine aw_getfE rfl cg_8 rfl (congrArg Value.ref hC.cx.2.2.2.2.2.1) ?_
                refine aw_getf rfl (sa hp).1 rfl ?_
                refine aw_muln rfl ?_
                refine aw_cv (d1 := 3) (L1 := 70) rfl rfl (sa hp).1 rfl rfl (by decide) (by decide) (Nat.le_of_ble_eq_true rfl) (c_land (LW := lwf W) hp hG0 hC.cx.2.2.1 hl96 (Or.inr ⟨j, o, hj, ho, rfl⟩) (fun u0 u1 => ?_))
                · rw [yl]
                  have hC := hC.ua (v0 := u0) (v1 := u1)
                  refine aw_ist (ls' := [_, _, _, _, _, _, _]) rfl rfl ?_
                  refine aw rfl rfl ?_
                  refine aw_c (v := nI 3) rfl (by decide) ?_
                  refine aw_ine rfl (fun _ => ?_) (fun c => absurd c (by decide))
                  refine aw rfl rfl ?_
                  refine aw_c (v := -1) rfl (by decide) ?_
                  refine aw_ine rfl (fun c => absurd (by decide) c) (fun _ => ?_)
                  refine aw rfl rfl ?_
                  refine aw_getf rfl cg_8 rfl ?_
                  refine aw_getfE rfl cg_46 rfl (congrArg Value.int (hC.st 2 (by decide))) ?_
                  refine aw_nen rfl (fun c102 => ?_) (fun c102 => ?_)
                  · refine aw rfl rfl ?_
                    refine aw_c (v := -1) rfl (by decide) ?_
                    refine aw_ine rfl (fun c => absurd (by decide) c) (fun _ => ?_)
                    refine aw rfl rfl ?_
                    refine aw_getf rfl cg_8 rfl ?_
                    refine aw_cv (d1 := 1) (L1 := 21) rfl rfl cg_46 rfl rfl (by decide) (by decide) (Nat.le_of_ble_eq_true rfl) (c_X6_lie hC.st ?_)
                    refine aw rfl rfl ?_
                    refine aw_ist (ls' := [_, _, _, _, _, _, _]) rfl rfl ?_
                    refine aw rfl rfl ?_
                    refine aw_c (v := nI 2) rfl (by decide) ?_
                    refine aw_ine rfl (fun c => absurd (by decide) c) (fun _ => ?_)
                    refine aw rfl rfl ?_
                    refine aw_c (v := nI 3) rfl (by decide) ?_
                    refine aw_remn rfl (by omega) (by omega) (by omega) ?_
                    exact aw_iret rfl rfl (by rw [if_pos ⟨h6, hk⟩] at q; unfold brV at q; rw [if_neg (by decide), if_neg (fun yy => c102 yy.2), if_pos (show lnd T (lwf W) S (6 * j + o) = -1 from yl)] at q; exact q _ _)
                  · refine aw_c (v := -2) rfl (by decide) ?_
                    exact aw_iret rfl rfl (by rw [if_pos ⟨h6, hk⟩] at q; unfold brV at q; rw [if_neg (by decide), if_pos ⟨(show lnd T (lwf W) S (6 * j + o) = -1 from yl), c102⟩] at q; exact q _ _)
              · refine aw_ne rfl (fun c => absurd (by decide) c) (fun _ => ?_)
                refine aw_c (v := -1) rfl (by decide) ?_
                exact aw_iret rfl rfl (by rw [if_neg (fun y => hk y)] at q; exact q _ _)
          · have hm96 := hm.1
            refine aw rfl rfl ?_
            refine aw_getfE rfl cg_8 rfl (congrArg Value.ref hC.cx.2.2.2.2.2.1) ?_
            refine aw rfl rfl ?_
            refine aw rfl rfl ?_
            refine aw_cv (d1 := 0) (L1 := 0) rfl rfl (sa hp).1 rfl rfl (by decide) (by decide) (Nat.le_of_ble_eq_true rfl) (c_X7_hasOutcome (sa hp) g3x (fun k9 e9 h9 _ _ => ?_) (fun w9 => absurd w9 (ho_no hj ho hg.1 (by omega) (by omega))))
            · refine aw_eq rfl (fun c => absurd c (by decide)) (fun _ => ?_)
              refine aw rfl rfl ?_
              refine aw_lt rfl (fun c => absurd c (by decide)) (fun _ => ?_)
              refine aw rfl rfl ?_
              refine aw_c (v := nI 3) rfl (by decide) ?_
              refine aw_igt rfl (fun c => absurd c (by decide)) (fun _ => ?_)
              refine aw rfl rfl ?_
              refine aw rfl rfl ?_
              refine aw_cv (d1 := 1) (L1 := 22) rfl rfl cg_8 rfl rfl (by decide) (by decide) (Nat.le_of_ble_eq_true rfl) (c_X10_canBeKicked hC hj (fun h6 hk => ?_) (fun hk => ?_))
              · refine aw_ne rfl (fun _ => ?_) (fun c => absurd c (by decide))
                refine aw rfl rfl ?_
                refine aw_c (v := nI 6) rfl (by decide) ?_
                refine aw_muln rfl ?_
                refine aw rfl rfl ?_
                refine aw_addn rfl ?_
                refine aw_ist (ls' := [_, _, _, _, _, _, _]) rfl rfl ?_
                rw [Nat.mul_comm j 6]
                refine aw rfl rfl ?_
                refine aw_getfE rfl cg_8 rfl (congrArg Value.ref hC.cx.2.2.2.2.2.1) ?_
                refine aw rfl rfl ?_
                refine aw_getf rfl cg_8 rfl ?_
                refine aw_cv (d1 := 1) (L1 := 21) rfl rfl cg_46 rfl rfl (by decide) (by decide) (Nat.le_of_ble_eq_true rfl) (c_X6_lie hC.st ?_)
                refine aw rfl rfl ?_
                refine aw rfl rfl ?_
                refine aw_getf rfl cg_8 rfl ?_
                refine aw_getfE rfl cg_46 rfl (congrArg Value.int (hC.st 4 (by decide))) ?_
                refine aw rfl rfl ?_
                refine aw_getfE rfl cg_8 rfl (congrArg Value.ref hC.cx.2.2.2.2.2.1) ?_
                refine aw_getf rfl (sa hp).1 rfl ?_
                refine aw_muln rfl ?_
                refine aw_cv (d1 := 3) (L1 := 70) rfl rfl (sa hp).1 rfl rfl (by decide) (by decide) (Nat.le_of_ble_eq_true rfl) (c_land (LW := lwf W) hp hG0 hC.cx.2.2.1 hl96 (Or.inr ⟨j, o, hj, ho, rfl⟩) (fun u0 u1 => ?_))
                rw [yl]
                have hC := hC.ua (v0 := u0) (v1 := u1)
                refine aw_ist (ls' := [_, _, _, _, _, _, _]) rfl rfl ?_
                refine aw rfl rfl ?_
                refine aw_c (v := nI 3) rfl (by decide) ?_
                refine aw_ine rfl (fun _ => ?_) (fun c => absurd c (by decide))
                refine aw rfl rfl ?_
                refine aw_c (v := -1) rfl (by decide) ?_
                refine aw_inem rfl ?_
                refine aw rfl rfl ?_
                refine aw_c (v := -1) rfl (by decide) ?_
                refine aw_inem rfl ?_
                refine aw rfl rfl ?_
                refine aw_ist (ls' := [_, _, _, _, _, _, _]) rfl rfl ?_
                refine aw rfl rfl ?_
                refine aw_c (v := nI 2) rfl (by decide) ?_
                refine aw_ine rfl (fun c => absurd (by decide) c) (fun _ => ?_)
                refine aw rfl rfl ?_
                refine aw_c (v := nI 3) rfl (by decide) ?_
                refine aw_remn rfl (by omega) (by omega) (by omega) ?_
                exact aw_iret rfl rfl (by rw [if_pos ⟨h6, hk⟩] at q; unfold brV at q; rw [if_neg (by decide), if_neg (fun yy => (show ¬ lnd T (lwf W) S (6 * j + o) = -1 from by rw [show lnd T (lwf W) S (6 * j + o) = nI m from yl]; exact n_m1 (by omega)) yy.1), if_neg (show ¬ lnd T (lwf W) S (6 * j + o) = -1 from by rw [show lnd T (lwf W) S (6 * j + o) = nI m from yl]; exact n_m1 (by omega)), show lnd T (lwf W) S (6 * j + o) = nI m from yl, nI_clamp (by omega)] at q; exact q _ _)
              · refine aw_ne rfl (fun c => absurd (by decide) c) (fun _ => ?_)
                refine aw_c (v := -1) rfl (by decide) ?_
                exact aw_iret rfl rfl (by rw [if_neg (fun y => hk y)] at q; exact q _ _)
        by_cases w3 : w = 3
        · subst w3
          rcases hld with yl | ⟨m, hm, yl⟩
          · skip
            refine aw rfl rfl ?_
            refine aw_getfE rfl cg_8 rfl (congrArg Value.ref hC.cx.2.2.2.2.2.1) ?_
            refine aw rfl rfl ?_
            refine aw rfl rfl ?_
            refine aw_cv (d1 := 0) (L1 := 0) rfl rfl (sa hp).1 rfl rfl (by decide) (by decide) (Nat.le_of_ble_eq_true rfl) (c_X7_hasOutcome (sa hp) g3x (fun k9 e9 h9 _ _ => ?_) (fun w9 => absurd w9 (ho_no hj ho hg.1 (by omega) (by omega))))
            · refine aw_eq rfl (fun c => absurd c (by decide)) (fun _ => ?_)
              refine aw rfl rfl ?_
              refine aw_lt rfl (fun c => absurd c (by decide)) (fun _ => ?_)
              refine aw rfl rfl ?_
              refine aw_c (v := nI 3) rfl (by decide) ?_
              refine aw_igt rfl (fun c => absurd c (by decide)) (fun _ => ?_)
              refine aw rfl rfl ?_
              refine aw rfl rfl ?_
              refine aw_cv (d1 := 1) (L1 := 22) rfl rfl cg_8 rfl rfl (by decide) (by decide) (Nat.le_of_ble_eq_true rfl) (c_X10_canBeKicked hC hj (fun h6 hk => ?_) (fun hk => ?_))
              · refine aw_ne rfl (fun _ => ?_) (fun c => absurd c (by decide))
                refine aw rfl rfl ?_
                refine aw_c (v := nI 6) rfl (by decide) ?_
                refine aw_muln rfl ?_
                refine aw rfl rfl ?_
                refine aw_addn rfl ?_
                refine aw_ist (ls' := [_, _, _, _, _, _, _]) rfl rfl ?_
                rw [Nat.mul_comm j 6]
                refine aw rfl rfl ?_
                refine aw_getfE rfl cg_8 rfl (congrArg Value.ref hC.cx.2.2.2.2.2.1) ?_
                refine aw rfl rfl ?_
                refine aw_getf rfl cg_8 rfl ?_
                refine aw_cv (d1 := 1) (L1 := 21) rfl rfl cg_46 rfl rfl (by decide) (by decide) (Nat.le_of_ble_eq_true rfl) (c_X6_lie hC.st ?_)
                refine aw rfl rfl ?_
                refine aw rfl rfl ?_
                refine aw_getf rfl cg_8 rfl ?_
                refine aw_getfE rfl cg_46 rfl (congrArg Value.int (hC.st 4 (by decide))) ?_
                refine aw rfl rfl ?_
                refine aw_getfE rfl cg_8 rfl (congrArg Value.ref hC.cx.2.2.2.2.2.1) ?_
                refine aw_getf rfl (sa hp).1 rfl ?_
                refine aw_muln rfl ?_
                refine aw_cv (d1 := 3) (L1 := 70) rfl rfl (sa hp).1 rfl rfl (by decide) (by decide) (Nat.le_of_ble_eq_true rfl) (c_land (LW := lwf W) hp hG0 hC.cx.2.2.1 hl96 (Or.inr ⟨j, o, hj, ho, rfl⟩) (fun u0 u1 => ?_))
                · rw [yl]
                  have hC := hC.ua (v0 := u0) (v1 := u1)
                  refine aw_ist (ls' := [_, _, _, _, _, _, _]) rfl rfl ?_
                  refine aw rfl rfl ?_
                  refine aw_c (v := nI 3) rfl (by decide) ?_
                  refine aw_ine rfl (fun c => absurd (by decide) c) (fun _ => ?_)
                  refine aw rfl rfl ?_
                  refine aw_c (v := -1) rfl (by decide) ?_
                  refine aw_ine rfl (fun c => absurd (by decide) c) (fun _ => ?_)
                  refine aw_c (v := nI 1) rfl (by decide) ?_
                  refine aw rfl rfl ?_
                  exact aw_iret rfl rfl (by rw [if_pos ⟨h6, hk⟩] at q; unfold brV at q; rw [if_pos rfl, if_pos (show lnd T (lwf W) S (6 * j + o) = -1 from yl)] at q; exact q _ _)
              · refine aw_ne rfl (fun c => absurd (by decide) c) (fun _ => ?_)
                refine aw_c (v := -1) rfl (by decide) ?_
                exact aw_iret rfl rfl (by rw [if_neg (fun y => hk y)] at q; exact q _ _)
          · have hm96 := hm.1
            refine aw rfl rfl ?_
            refine aw_getfE rfl cg_8 rfl (congrArg Value.ref hC.cx.2.2.2.2.2.1) ?_
            refine aw rfl rfl ?_
            refine aw rfl rfl ?_
            refine aw_cv (d1 := 0) (L1 := 0) rfl rfl (sa hp).1 rfl rfl (by decide) (by decide) (Nat.le_of_ble_eq_true rfl) (c_X7_hasOutcome (sa hp) g3x (fun k9 e9 h9 _ _ => ?_) (fun w9 => absurd w9 (ho_no hj ho hg.1 (by omega) (by omega))))
            · refine aw_eq rfl (fun c => absurd c (by decide)) (fun _ => ?_)
              refine aw rfl rfl ?_
              refine aw_lt rfl (fun c => absurd c (by decide)) (fun _ => ?_)
              refine aw rfl rfl ?_
              refine aw_c (v := nI 3) rfl (by decide) ?_
              refine aw_igt rfl (fun c => absurd c (by decide)) (fun _ => ?_)
              refine aw rfl rfl ?_
              refine aw rfl rfl ?_
              refine aw_cv (d1 := 1) (L1 := 22) rfl rfl cg_8 rfl rfl (by decide) (by decide) (Nat.le_of_ble_eq_true rfl) (c_X10_canBeKicked hC hj (fun h6 hk => ?_) (fun hk => ?_))
              · refine aw_ne rfl (fun _ => ?_) (fun c => absurd c (by decide))
                refine aw rfl rfl ?_
                refine aw_c (v := nI 6) rfl (by decide) ?_
                refine aw_muln rfl ?_
                refine aw rfl rfl ?_
                refine aw_addn rfl ?_
                refine aw_ist (ls' := [_, _, _, _, _, _, _]) rfl rfl ?_
                rw [Nat.mul_comm j 6]
                refine aw rfl rfl ?_
                refine aw_getfE rfl cg_8 rfl (congrArg Value.ref hC.cx.2.2.2.2.2.1) ?_
                refine aw rfl rfl ?_
                refine aw_getf rfl cg_8 rfl ?_
                refine aw_cv (d1 := 1) (L1 := 21) rfl rfl cg_46 rfl rfl (by decide) (by decide) (Nat.le_of_ble_eq_true rfl) (c_X6_lie hC.st ?_)
                refine aw rfl rfl ?_
                refine aw rfl rfl ?_
                refine aw_getf rfl cg_8 rfl ?_
                refine aw_getfE rfl cg_46 rfl (congrArg Value.int (hC.st 4 (by decide))) ?_
                refine aw rfl rfl ?_
                refine aw_getfE rfl cg_8 rfl (congrArg Value.ref hC.cx.2.2.2.2.2.1) ?_
                refine aw_getf rfl (sa hp).1 rfl ?_
                refine aw_muln rfl ?_
                refine aw_cv (d1 := 3) (L1 := 70) rfl rfl (sa hp).1 rfl rfl (by decide) (by decide) (Nat.le_of_ble_eq_true rfl) (c_land (LW := lwf W) hp hG0 hC.cx.2.2.1 hl96 (Or.inr ⟨j, o, hj, ho, rfl⟩) (fun u0 u1 => ?_))
                rw [yl]
                have hC := hC.ua (v0 := u0) (v1 := u1)
                refine aw_ist (ls' := [_, _, _, _, _, _, _]) rfl rfl ?_
                refine aw rfl rfl ?_
                refine aw_c (v := nI 3) rfl (by decide) ?_
                refine aw_ine rfl (fun c => absurd (by decide) c) (fun _ => ?_)
                refine aw rfl rfl ?_
                refine aw_c (v := -1) rfl (by decide) ?_
                refine aw_inem rfl ?_
                refine aw_c (v := nI 0) rfl (by decide) ?_
                exact aw_iret rfl rfl (by rw [if_pos ⟨h6, hk⟩] at q; unfold brV at q; rw [if_pos rfl, if_neg (show ¬ lnd T (lwf W) S (6 * j + o) = -1 from by rw [show lnd T (lwf W) S (6 * j + o) = nI m from yl]; exact n_m1 (by omega))] at q; exact q _ _)
              · refine aw_ne rfl (fun c => absurd (by decide) c) (fun _ => ?_)
                refine aw_c (v := -1) rfl (by decide) ?_
                exact aw_iret rfl rfl (by rw [if_neg (fun y => hk y)] at q; exact q _ _)
        omega
      · rw [sp_out (not_and_or2 hz)] at q
        refine aw rfl rfl ?_
        refine aw_getfE rfl cg_8 rfl (congrArg Value.ref hC.cx.2.2.2.2.2.1) ?_
        refine aw rfl rfl ?_
        refine aw rfl rfl ?_
        refine aw_cv (d1 := 0) (L1 := 0) rfl rfl (sa hp).1 rfl rfl (by decide) (by decide) (Nat.le_of_ble_eq_true rfl) (c_X7_hasOutcome (sa hp) g3x (fun k9 e9 h9 _ _ => ?_) (fun w9 => absurd w9 (ho_no hj ho hg.1 (by omega) (by omega))))
        · refine aw_eq rfl (fun c => absurd c (by decide)) (fun _ => ?_)
          refine aw rfl rfl ?_
          refine aw_lt rfl (fun c13 => ?_) (fun c13 => ?_)
          · refine aw_c (v := -1) rfl (by decide) ?_
            exact aw_iret rfl rfl (q _ _)
          · obtain ⟨w, hw9, rfl⟩ := nI_of c13
            refine aw rfl rfl ?_
            refine aw_c (v := nI 3) rfl (by decide) ?_
            refine aw_igtn rfl (fun c18 => ?_) (fun c18 => absurd ⟨nI_pos' hw9, nI_le (by omega) (by decide)⟩ hz)
            refine aw_c (v := -1) rfl (by decide) ?_
            exact aw_iret rfl rfl (q _ _)
    · rw [if_neg hy] at q
      refine aw rfl rfl ?_
      refine aw_getfE rfl cg_8 rfl (congrArg Value.ref hC.cx.2.2.2.2.2.1) ?_
      refine aw rfl rfl ?_
      refine aw rfl rfl ?_
      refine aw_cv (d1 := 0) (L1 := 0) rfl rfl (sa hp).1 rfl rfl (by decide) (by decide) (Nat.le_of_ble_eq_true rfl) (c_X7_hasOutcome (sa hp) g3x (fun k9 e9 h9 h1 h2 => absurd ⟨Int32.not_lt.mp h1, by have e8 := (nI_eq (by omega) (by omega)).mp e9; subst e8; rw [hg.1] at h2; exact Int32.not_le.mp h2⟩ hy) (fun w9 => ?_))
      · refine aw_eq rfl (fun _ => ?_) (fun c => absurd (by decide) c)
        refine aw_c (v := -1) rfl (by decide) ?_
        exact aw_iret rfl rfl (q _ _)
  · have hx2 : kin T x (fun j => if nI 0 ≤ y ∧ y < nI (oc T j) then sp z 0 3 (fun w => if S 6 = 0 ∧ mck T (S 0 * 3 + S 1) j = true then brV T (lwf W) S (6 * j + y.toNatClampNeg) w else -1) else -1) = -1 := if_neg hx
    rw [hx2] at q
    refine aw rfl rfl ?_
    refine aw_getfE rfl cg_8 rfl (congrArg Value.ref hC.cx.2.2.2.2.2.1) ?_
    refine aw rfl rfl ?_
    refine aw rfl rfl ?_
    refine aw_cv (d1 := 0) (L1 := 0) rfl rfl (sa hp).1 rfl rfl (by decide) (by decide) (Nat.le_of_ble_eq_true rfl) (c_X7_hasOutcome (sa hp) g3x (fun k9 e9 h9 h1 h2 => absurd ⟨by rw [e9]; exact nI_pos' (by omega), by rw [e9]; exact nI_lt h9 (by omega)⟩ hx) (fun w9 => ?_))
    · refine aw_eq rfl (fun _ => ?_) (fun c => absurd (by decide) c)
      refine aw_c (v := -1) rfl (by decide) ?_
      exact aw_iret rfl rfl (q _ _)
end C1
