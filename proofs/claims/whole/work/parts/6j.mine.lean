def hs_ (no : Nat) (lf : Nat → Nat) (h : Nat) : Nat := if h < no then lf h else 96
theorem LLr.a2 {T : Sd} {K : Ck} {no na : Nat} {lf : Nat → Nat} {y : Nat → Nat → Int32} (h : LLr T K no na lf) (e : y 104 = K.2.1 104) : LLr T (K.1, y, K.2.2) no na lf := by
  unfold LLr at h ⊢
  dsimp only
  rw [e]
  exact h
theorem hs_lt {no na : Nat} {T : Sd} {K : Ck} {lf : Nat → Nat} (h : LLr T K no na lf) {i : Nat} : hs_ no lf i < 97 := by
  unfold hs_
  split
  · have := (h.2.2.2.2.1 i (by have := h.2.1; omega)).2.1; omega
  · decide
theorem hs_inj {no na : Nat} {T : Sd} {K : Ck} {lf : Nat → Nat} (h : LLr T K no na lf) {i j : Nat} (hi : i ≤ no) (hj : j ≤ no) (e : hs_ no lf i = hs_ no lf j) : i = j := by
  have hl := fun i (h1 : i < no) => (h.2.2.2.2.1 i (by have := h.2.1; omega)).2.1
  unfold hs_ at e
  by_cases e1 : i < no
  · rw [if_pos e1] at e
    have := hl i e1
    by_cases e2 : j < no
    · rw [if_pos e2] at e; exact h.2.2.2.2.2.2.2.1 i j e1 e2 e
    · rw [if_neg e2] at e; omega
  · rw [if_neg e1] at e
    by_cases e2 : j < no
    · rw [if_pos e2] at e; have := hl j e2; omega
    · omega
/-! ===== the class: the race (4): my turn ===== -/
/-- an open lie -/
def opn (T : Sd) (l : Nat) : Prop := lieOK T l ∧ hm T l = false
section C1
variable {g : am_H} {T0 T1 T : Sd} {u0 u1 : Ua} {K : Ck} {rf : Nat → Nat} {p : Nat} {LW : LWt} {S : Nat → Nat} {u td nt cc : Nat} {P Z : Nat → Nat → Nat} {s1 s2 : Nat → Nat} {x : Int32} {r left : Nat} {TD : Nat → Nat} {hd : Nat → Bool} {tp : Nat → Int32} {pc : Int32}
variable {no na : Nat} {lf : Nat → Nat}
theorem l_col {Q : Option Value → am_H → Prop} (hX : CX p T LW T0 T1 g rf) (hL : LLr T K no na lf) (hR : RG T LW g rf x) (hs1 : AR (K.2.1 111) s1) (hB : ∀ a b, P a b ≤ 100000000) (hP9 : ∀ b, P 96 b = 0) (hPh : ∀ m b, m < 96 → hm T m = true → P m b = 6 ^ left) (hP0 : left = 0 → ∀ m b, m < 96 → hm T m = false → P m b = 0) (hn : left ≤ 10) (hcl : left ≠ 0 → ∀ l, lieOK T l → hm T l = false → s1 l ≤ r → ∀ a, a ≤ T.1 3 → CLa T LW s1 l a (r + 1) x) (hr : r ≤ 10) {h9 b : Nat} (hb : b < 97) (hO : left ≠ 0 → ∀ m, opn T m → s1 m ≤ r + 1 → K.2.1 109 (m * 97 + b) = nI (P m b)) {l5 : Option Value} (q : ∀ y l5, (∀ j, j ≠ 109 → j ≠ 110 → y j = K.2.1 j) → (∀ i, i < no → s1 (lf i) ≤ r → y 109 (lf i * 97 + b) = nI (exN (ext true (fun a => vC T LW (fun m => P m b) (lf i) a x) (cnB T (lf i)) (T.1 3 + 1)))) → (∀ a b', b' < 97 → b' ≠ b → y 109 (a * 97 + b') = K.2.1 109 (a * 97 + b')) → AW am_P 4 95 37 202 [some (.ref 108), some (.int (nI r)), some (.int (nI left)), some (.int (nI h9)), some (.int (nI b)), l5] [] (ch g T0 u0 T1 u1 (K.1, y, K.2.2) rf) Q) : AW am_P 4 95 37 58 [some (.ref 108), some (.int (nI r)), some (.int (nI left)), some (.int (nI h9)), some (.int (nI b)), l5] [] (ch g T0 u0 T1 u1 K rf) Q := by
  have hX0 := hX
  obtain ⟨hp, hG, hW, hU, h8t, hr0, hr3, hr4, hr5, hsix, hf6, hf7, hf67⟩ := hX
  have hG0 := hG
  obtain ⟨⟨g0, g0x⟩, ⟨g1, g1x⟩, ⟨g2, g2x⟩, ⟨g3, g3x⟩, g4, ⟨g5, g5x⟩, g6, gsq, goc, gwt, gsp, gfr⟩ := hG
  have hL0 := hL
  obtain ⟨l96, lno, l18, l19, lin, lop, lhm, linj, lall, lhome⟩ := hL
  have h6 : am_six (ch g T0 u0 T1 u1 K rf) := (cg_low (by decide)).trans hsix
  refine aw_c (v := nI 0) rfl (by decide) ?_
  refine aw_ist (ls' := [_, _, _, _, _, _]) rfl rfl ?_
  refine aw_loop (α := Nat → Nat → Int32) (ll := fun i y => [some (.ref 108), some (.int (nI r)), some (.int (nI left)), some (.int (nI h9)), some (.int (nI b)), some (.int (nI i))]) (hh := fun i y => (ch g T0 u0 T1 u1 (K.1, y, K.2.2) rf)) (I := fun i y => (∀ j, j ≠ 110 → y j = K.2.1 j) ∧ (∀ i', i' < i → y 110 (lf i') = (if left = 0 then nI 0 else K.2.1 109 (lf i' * 97 + b)))) (N := no) (fun i y hi hI ih => ?_) (fun y hI => ?_) 0 K.2.1 (Nat.zero_le _) ⟨fun _ _ => rfl, fun z hz => absurd hz (Nat.not_lt_zero _)⟩
  · skip
    obtain ⟨hI1, hI2⟩ := hI
    have hlie := (lin i (by omega)).2
    have hl96 := hlie.1
    have hs13 := (hs1 (lf i) hl96).2
    have hho := lop i hi
    refine aw rfl rfl ?_
    refine aw rfl rfl ?_
    refine aw_getf rfl cg_108 rfl ?_
    refine aw_getfE rfl cg_100 rfl (congrArg Value.int l18) ?_
    refine aw_igen rfl (fun c70 => by omega) (fun c70 => ?_)
    refine aw rfl rfl ?_
    refine aw_getf rfl cg_108 rfl ?_
    refine aw rfl rfl ?_
    refine aw_getf rfl cg_108 rfl ?_
    refine aw_getf rfl cg_100 rfl ?_
    refine aw rfl rfl ?_
    refine aw_ialdE rfl cg_104 rfl (by omega) (by decide) ((congrFun (hI1 104 (by decide)) i).trans (lin i (by omega)).1) ?_
    refine aw rfl rfl ?_
    refine aw_nen rfl (fun c88 => ?_) (fun c88 => ?_)
    · refine aw rfl rfl ?_
      refine aw_getf rfl cg_108 rfl ?_
      refine aw rfl rfl ?_
      refine aw_getf rfl cg_108 rfl ?_
      refine aw_getf rfl cg_100 rfl ?_
      refine aw rfl rfl ?_
      refine aw_ialdE rfl cg_104 rfl (by omega) (by decide) ((congrFun (hI1 104 (by decide)) i).trans (lin i (by omega)).1) ?_
      refine aw_c (v := nI 97) rfl (by decide) ?_
      refine aw_muln rfl ?_
      refine aw rfl rfl ?_
      refine aw_addn rfl ?_
      refine aw_iald rfl cg_109 rfl (by omega) (by decide) ?_
      refine aw_iastU rfl cg_110 rfl (by omega) (by decide) (by decide) cu_110 ?_
      refine aw_incn (c := 1) (ls' := [_, _, _, _, _, _]) rfl rfl (by decide) rfl ?_
      refine aw rfl rfl ?_
      exact ih (va_up y 110 (upd (y 110) (lf i) (y 109 (lf i * 97 + b)))) ⟨fun j hj => (vu_ot hj).trans (hI1 j hj), fun z hz => by
        rw [vu_at]
        by_cases e : z = i
        · subst e; rw [upd_at]; rw [if_neg c88, hI1 109 (by decide)]
        · have := linj z i (by omega) hi
          rw [upd_ne (by omega)]; exact hI2 z (by omega)⟩
    · refine aw_c (v := nI 0) rfl (by decide) ?_
      refine aw rfl rfl ?_
      refine aw_iastU rfl cg_110 rfl (by omega) (by decide) (by decide) cu_110 ?_
      refine aw_incn (c := 1) (ls' := [_, _, _, _, _, _]) rfl rfl (by decide) rfl ?_
      refine aw rfl rfl ?_
      exact ih (va_up y 110 (upd (y 110) (lf i) (nI 0))) ⟨fun j hj => (vu_ot hj).trans (hI1 j hj), fun z hz => by
        rw [vu_at]
        by_cases e : z = i
        · subst e; rw [upd_at]; exact (if_pos c88).symm
        · have := linj z i (by omega) hi
          rw [upd_ne (by omega)]; exact hI2 z (by omega)⟩
  · skip
    obtain ⟨hI1, hI2⟩ := hI
    refine aw rfl rfl ?_
    refine aw rfl rfl ?_
    refine aw_getf rfl cg_108 rfl ?_
    refine aw_getfE rfl cg_100 rfl (congrArg Value.int l18) ?_
    refine aw_igen rfl (fun c70 => ?_) (fun c70 => by omega)
    refine aw_c (v := nI 0) rfl (by decide) ?_
    refine aw_ist (ls' := [_, _, _, _, _, _]) rfl rfl ?_
    revert hI1 hI2
    generalize y = y1
    intro hI1 hI2
    refine aw_loop (α := Nat → Nat → Int32) (ll := fun i y => [some (.ref 108), some (.int (nI r)), some (.int (nI left)), some (.int (nI h9)), some (.int (nI b)), some (.int (nI i))]) (hh := fun i y => (ch g T0 u0 T1 u1 (K.1, y, K.2.2) rf)) (I := fun i y => (∀ j, j ≠ 109 → y j = y1 j) ∧ (∀ i', i' < i → s1 (lf i') ≤ r → y 109 (lf i' * 97 + b) = nI (exN (ext true (fun a => vC T LW (fun m => P m b) (lf i') a x) (cnB T (lf i')) (T.1 3 + 1)))) ∧ (∀ a b', b' < 97 → b' ≠ b → y 109 (a * 97 + b') = y1 109 (a * 97 + b'))) (N := no) (fun i y hi hI ih => ?_) (fun y hI => ?_) 0 y1 (Nat.zero_le _) ⟨fun _ _ => rfl, fun z hz => absurd hz (Nat.not_lt_zero _), fun _ _ _ _ => rfl⟩
    · skip
      obtain ⟨hK1, hK2, hK3⟩ := hI
      have hlie := (lin i (by omega)).2
      have hl96 := hlie.1
      have hs13 := (hs1 (lf i) hl96).2
      have hho := lop i hi
      refine aw rfl rfl ?_
      refine aw rfl rfl ?_
      refine aw_getf rfl cg_108 rfl ?_
      refine aw_getfE rfl cg_100 rfl (congrArg Value.int l18) ?_
      refine aw_igen rfl (fun c135 => by omega) (fun c135 => ?_)
      refine aw rfl rfl ?_
      refine aw_getf rfl cg_108 rfl ?_
      refine aw rfl rfl ?_
      refine aw_getf rfl cg_108 rfl ?_
      refine aw_getf rfl cg_100 rfl ?_
      refine aw rfl rfl ?_
      refine aw_ialdE rfl cg_104 rfl (by omega) (by decide) ((congrFun ((hK1 104 (by decide)).trans (hI1 104 (by decide))) i).trans (lin i (by omega)).1) ?_
      refine aw_ialdE rfl cg_111 rfl (by omega) (by decide) ((congrFun ((hK1 111 (by decide)).trans (hI1 111 (by decide))) (lf i)).trans (hs1 (lf i) hl96).1) ?_
      refine aw rfl rfl ?_
      refine aw_igtn rfl (fun c154 => ?_) (fun c154 => ?_)
      · refine aw_incn (c := 1) (ls' := [_, _, _, _, _, _]) rfl rfl (by decide) rfl ?_
        refine aw rfl rfl ?_
        exact ih y ⟨hK1, fun z hz h => by
          by_cases e : z = i
          · subst e; exact absurd h (by omega)
          · exact hK2 z (by omega) h, hK3⟩
      · have hVW : ∀ a way, vwA T (lf i) a way → VW T (fun m => P m b) (6 ^ left) 0 (y 110) (tw T LW (lf i) way x) := fun a way hvA => by
          have hy110 : y 110 = y1 110 := hK1 110 (by decide)
          refine ⟨fun e => by rw [e]; exact hP9 b, fun h1 h2 => hPh _ b h1 h2, fun h1 h2 => ?_⟩
          have hw24 : way = 24 ∨ ∃ j o, j < T.1 3 ∧ o < oc T j ∧ way = 6 * j + o := by
            rcases hvA with ⟨_, h6⟩ | ⟨h5, h6, o, h7, h8⟩
            · exact Or.inl h6
            · exact Or.inr ⟨a, o, h5, h7, h8⟩
          have ha3 : a ≤ T.1 3 := by rcases hvA with ⟨h5, _⟩ | ⟨h5, _⟩ <;> omega
          rcases n_land_lie (LW := LW) (x := x) hG0 hlie hw24 with hz | ⟨m, hmm, hz⟩
          · rw [tw_lost hz] at h1; omega
          · have hm96 := hmm.1
            have hT := tw_on hz (show m < 2147483648 by omega)
            rw [hT] at h1 h2 ⊢
            obtain ⟨i9, h3, rfl⟩ := lall m hmm h2
            rw [hy110, hI2 i9 h3]
            by_cases e : left = 0
            · rw [if_pos e]; exact (congrArg nI (hP0 e _ b h1 h2)).symm
            · rw [if_neg e]; exact hO e _ ⟨hmm, h2⟩ (hcl e _ hlie hho (by omega) a ha3 way hvA _ hm96 hz)
        refine aw rfl rfl ?_
        refine aw_getf rfl cg_108 rfl ?_
        refine aw rfl rfl ?_
        refine aw_getf rfl cg_108 rfl ?_
        refine aw_getf rfl cg_100 rfl ?_
        refine aw rfl rfl ?_
        refine aw_ialdE rfl cg_104 rfl (by omega) (by decide) ((congrFun ((hK1 104 (by decide)).trans (hI1 104 (by decide))) i).trans (lin i (by omega)).1) ?_
        refine aw_c (v := nI 97) rfl (by decide) ?_
        refine aw_muln rfl ?_
        refine aw rfl rfl ?_
        refine aw_addn rfl ?_
        refine aw rfl rfl ?_
        refine aw rfl rfl ?_
        refine aw_getf rfl cg_108 rfl ?_
        refine aw_getf rfl cg_100 rfl ?_
        refine aw rfl rfl ?_
        refine aw_ialdE rfl cg_104 rfl (by omega) (by decide) ((congrFun ((hK1 104 (by decide)).trans (hI1 104 (by decide))) i).trans (lin i (by omega)).1) ?_
        refine aw rfl rfl ?_
        refine aw_cs (d1 := 0) (L1 := 0) rfl rfl (by decide) (by decide) (Nat.le_of_ble_eq_true rfl) (c_X10_sixesOf ((cg_low (by decide)).trans hsix) hn ?_)
        refine aw_cv (d1 := 3) (L1 := 71) rfl rfl cg_108 rfl rfl (by decide) (by decide) (Nat.le_of_ble_eq_true rfl) (c_X3_myBest (K := (K.1, y, K.2.2)) (V := fun m => P m b) hX0 hR hlie hho hVW (fun m => hB m b) ?_)
        refine aw_iastU rfl cg_109 rfl (by omega) (by decide) (by decide) cu_109 ?_
        refine aw_incn (c := 1) (ls' := [_, _, _, _, _, _]) rfl rfl (by decide) rfl ?_
        refine aw rfl rfl ?_
        exact ih (va_up y 109 (upd (y 109) (lf i * 97 + b) (nI (exN (ext true (fun a => vC T LW (fun m => P m b) (lf i) a x) (cnB T (lf i)) (T.1 3 + 1)))))) ⟨fun j hj => (vu_ot hj).trans (hK1 j hj), fun z hz h => by
          rw [vu_at]
          by_cases e : z = i
          · subst e; exact upd_at
          · have := linj z i (by omega) hi
            rw [upd_ne (by omega)]; exact hK2 z (by omega) h, fun a b9 h1 h2 => by
          rw [vu_at, upd_ne (by omega)]; exact hK3 a b9 h1 h2⟩
    · skip
      obtain ⟨hK1, hK2, hK3⟩ := hI
      refine aw rfl rfl ?_
      refine aw rfl rfl ?_
      refine aw_getf rfl cg_108 rfl ?_
      refine aw_getfE rfl cg_100 rfl (congrArg Value.int l18) ?_
      refine aw_igen rfl (fun c135 => ?_) (fun c135 => by omega)
      exact q y _ (fun j h1 h2 => (hK1 j h1).trans (hI1 j h2)) hK2 (fun a b9 h1 h2 => (hK3 a b9 h1 h2).trans (congrFun (hI1 109 (by decide)) _))
theorem c_X3_takeMyTurn {Q : Option Value → am_H → Prop} (hX : CX p T LW T0 T1 g rf) (hL : LLr T K no na lf) (hR : RG T LW g rf x) (hs1 : AR (K.2.1 111) s1) (hs2 : AR (K.2.1 112) s2) (hB : ∀ a b, P a b ≤ 100000000) (hP9 : ∀ b, P 96 b = 0) (hPh : ∀ m b, m < 96 → hm T m = true → P m b = 6 ^ left) (hP0 : left = 0 → ∀ m b, m < 96 → hm T m = false → P m b = 0) (hn : left ≤ 10) (hcl : left ≠ 0 → ∀ l, lieOK T l → hm T l = false → s1 l ≤ r → ∀ a, a ≤ T.1 3 → CLa T LW s1 l a (r + 1) x) (hr : r ≤ 10) (hO : left ≠ 0 → ∀ m b, opn T m → s1 m ≤ r + 1 → (b = 96 ∨ (opn T b ∧ s2 b ≤ r)) → K.2.1 109 (m * 97 + b) = nI (P m b)) (q : ∀ y, (∀ j, j ≠ 109 → j ≠ 110 → y j = K.2.1 j) → (∀ m b, opn T m → s1 m ≤ r → (b = 96 ∨ (opn T b ∧ s2 b ≤ r)) → y 109 (m * 97 + b) = nI (exN (ext true (fun a => vC T LW (fun m => P m b) m a x) (cnB T m) (T.1 3 + 1)))) → Q none (ch g T0 u0 T1 u1 (K.1, y, K.2.2) rf)) : AC am_P 4 95 37 [.ref 108, .int (nI r), .int (nI left)] (ch g T0 u0 T1 u1 K rf) Q := by
  refine AC.of (ls := [_, _, _, _, _, _]) rfl ?_
  have hX0 := hX
  obtain ⟨hp, hG, hW, hU, h8t, hr0, hr3, hr4, hr5, hsix, hf6, hf7, hf67⟩ := hX
  have hG0 := hG
  obtain ⟨⟨g0, g0x⟩, ⟨g1, g1x⟩, ⟨g2, g2x⟩, ⟨g3, g3x⟩, g4, ⟨g5, g5x⟩, g6, gsq, goc, gwt, gsp, gfr⟩ := hG
  have hL0 := hL
  obtain ⟨l96, lno, l18, l19, lin, lop, lhm, linj, lall, lhome⟩ := hL
  refine aw_c (v := nI 0) rfl (by decide) ?_
  refine aw_ist (ls' := [_, _, _, _, _, _]) rfl rfl ?_
  refine aw_loop (α := (Nat → Nat → Int32) × Option Value × Option Value) (ll := fun i y => [some (.ref 108), some (.int (nI r)), some (.int (nI left)), some (.int (nI i)), y.2.1, y.2.2]) (hh := fun i y => (ch g T0 u0 T1 u1 (K.1, y.1, K.2.2) rf)) (I := fun i y => (∀ j, j ≠ 109 → j ≠ 110 → y.1 j = K.2.1 j) ∧ (∀ h, h < i → (hs_ no lf h = 96 ∨ s2 (hs_ no lf h) ≤ r) → ∀ z, z < no → s1 (lf z) ≤ r → y.1 109 (lf z * 97 + hs_ no lf h) = nI (exN (ext true (fun a => vC T LW (fun m => P m (hs_ no lf h)) (lf z) a x) (cnB T (lf z)) (T.1 3 + 1)))) ∧ (∀ h, i ≤ h → h ≤ no → ∀ a, y.1 109 (a * 97 + hs_ no lf h) = K.2.1 109 (a * 97 + hs_ no lf h))) (N := no + 1) (fun i y hi hI ih => ?_) (fun y hI => ?_) 0 (K.2.1, none, none) (Nat.zero_le _) ⟨fun _ _ _ => rfl, fun z hz => absurd hz (Nat.not_lt_zero _), fun _ _ _ _ => rfl⟩
  · skip
    obtain ⟨y, l4, l5⟩ := y
    obtain ⟨hI1, hI2, hI3⟩ := hI
    dsimp only at hI1 hI2 hI3 ⊢
    by_cases hno : i < no
    · have hhs : hs_ no lf i = lf i := if_pos hno
      have hl96 := (lin i (by omega)).2.1
      have hs3 := (hs2 (lf i) hl96).2
      refine aw rfl rfl ?_
      refine aw rfl rfl ?_
      refine aw_getf rfl cg_108 rfl ?_
      refine aw_getfE rfl cg_100 rfl (congrArg Value.int l18) ?_
      refine aw_igtn rfl (fun c10 => by omega) (fun c10 => ?_)
      refine aw rfl rfl ?_
      refine aw rfl rfl ?_
      refine aw_getf rfl cg_108 rfl ?_
      refine aw_getfE rfl cg_100 rfl (congrArg Value.int l18) ?_
      refine aw_igen rfl (fun c21 => by omega) (fun c21 => ?_)
      refine aw rfl rfl ?_
      refine aw_getf rfl cg_108 rfl ?_
      refine aw_getf rfl cg_100 rfl ?_
      refine aw rfl rfl ?_
      refine aw_ialdE rfl cg_104 rfl (by omega) (by decide) ((congrFun (hI1 104 (by decide) (by decide)) i).trans (lin i (by omega)).1) ?_
      refine aw rfl rfl ?_
      refine aw_ist (ls' := [_, _, _, _, _, _]) rfl rfl ?_
      refine aw rfl rfl ?_
      refine aw_c (v := nI 96) rfl (by decide) ?_
      refine aw_ieqn rfl (fun c44 => by omega) (fun c44 => ?_)
      refine aw rfl rfl ?_
      refine aw_getf rfl cg_108 rfl ?_
      refine aw rfl rfl ?_
      refine aw_ialdE rfl cg_112 rfl (by omega) (by decide) ((congrFun (hI1 112 (by decide) (by decide)) (lf i)).trans (hs2 (lf i) hl96).1) ?_
      refine aw rfl rfl ?_
      refine aw_igtn rfl (fun c55 => ?_) (fun c55 => ?_)
      · refine aw_incn (c := 1) (ls' := [_, _, _, _, _, _]) rfl rfl (by decide) rfl ?_
        refine aw rfl rfl ?_
        exact ih (y, _, _) ⟨hI1, fun h hh hk z hz h1 => by
          by_cases e : h = i
          · subst e; rw [hhs] at hk; omega
          · exact hI2 h (by omega) hk z hz h1, fun h h1 h2 a => hI3 h (by omega) h2 a⟩
      · refine l_col (K := (K.1, y, K.2.2)) (h9 := i) (b := lf i) hX0 (hL0.a2 (hI1 104 (by decide) (by decide))) hR (by show AR (y 111) s1; rw [hI1 111 (by decide) (by decide)]; exact hs1) hB hP9 hPh hP0 hn hcl hr (by omega) (fun e m h1 h2 => by show y 109 _ = _; rw [← hhs, hI3 i (Nat.le_refl _) (by omega) m, hhs]; exact hO e m _ h1 h2 (Or.inr ⟨⟨(lin i (by omega)).2, lop i hno⟩, by omega⟩)) (fun y9 l9 d1 d2 d3 => ?_)
        rw [← hhs] at d2 d3
        refine aw_incn (c := 1) (ls' := [_, _, _, _, _, _]) rfl rfl (by decide) rfl ?_
        refine aw rfl rfl ?_
        exact ih (y9, _, l9) ⟨fun j h1 h2 => (d1 j h1 h2).trans (hI1 j h1 h2), fun h hh hk z hz h1 => by
          by_cases e : h = i
          · subst e; exact d2 z hz h1
          · exact (d3 (lf z) _ (hs_lt hL0) (fun e9 => e (hs_inj hL0 (by omega) (by omega) e9))).trans (hI2 h (by omega) hk z hz h1), fun h h1 h2 a => (d3 a _ (hs_lt hL0) (fun e9 => absurd (hs_inj hL0 h2 (by omega) e9) (by omega))).trans (hI3 h (by omega) h2 a)⟩
    · have hhs : hs_ no lf i = 96 := if_neg hno
      refine aw rfl rfl ?_
      refine aw rfl rfl ?_
      refine aw_getf rfl cg_108 rfl ?_
      refine aw_getfE rfl cg_100 rfl (congrArg Value.int l18) ?_
      refine aw_igtn rfl (fun c10 => by omega) (fun c10 => ?_)
      refine aw rfl rfl ?_
      refine aw rfl rfl ?_
      refine aw_getf rfl cg_108 rfl ?_
      refine aw_getfE rfl cg_100 rfl (congrArg Value.int l18) ?_
      refine aw_igen rfl (fun c21 => ?_) (fun c21 => by omega)
      refine aw_c (v := nI 96) rfl (by decide) ?_
      refine aw_ist (ls' := [_, _, _, _, _, _]) rfl rfl ?_
      refine aw rfl rfl ?_
      refine aw_c (v := nI 96) rfl (by decide) ?_
      refine aw_ieq rfl (fun _ => ?_) (fun c => absurd (by decide) c)
      refine l_col (K := (K.1, y, K.2.2)) (h9 := i) (b := 96) hX0 (hL0.a2 (hI1 104 (by decide) (by decide))) hR (by show AR (y 111) s1; rw [hI1 111 (by decide) (by decide)]; exact hs1) hB hP9 hPh hP0 hn hcl hr (by omega) (fun e m h1 h2 => by show y 109 _ = _; rw [← hhs, hI3 i (Nat.le_refl _) (by omega) m, hhs]; exact hO e m _ h1 h2 (Or.inl rfl)) (fun y9 l9 d1 d2 d3 => ?_)
      rw [← hhs] at d2 d3
      refine aw_incn (c := 1) (ls' := [_, _, _, _, _, _]) rfl rfl (by decide) rfl ?_
      refine aw rfl rfl ?_
      exact ih (y9, _, l9) ⟨fun j h1 h2 => (d1 j h1 h2).trans (hI1 j h1 h2), fun h hh hk z hz h1 => by
        by_cases e : h = i
        · subst e; exact d2 z hz h1
        · exact (d3 (lf z) _ (hs_lt hL0) (fun e9 => e (hs_inj hL0 (by omega) (by omega) e9))).trans (hI2 h (by omega) hk z hz h1), fun h h1 h2 a => (d3 a _ (hs_lt hL0) (fun e9 => absurd (hs_inj hL0 h2 (by omega) e9) (by omega))).trans (hI3 h (by omega) h2 a)⟩
  · skip
    obtain ⟨y, l4, l5⟩ := y
    obtain ⟨hI1, hI2, hI3⟩ := hI
    dsimp only at hI1 hI2 hI3 ⊢
    refine aw rfl rfl ?_
    refine aw rfl rfl ?_
    refine aw_getf rfl cg_108 rfl ?_
    refine aw_getfE rfl cg_100 rfl (congrArg Value.int l18) ?_
    refine aw_igtn rfl (fun c10 => ?_) (fun c10 => by omega)
    exact aw_vret rfl rfl (q y hI1 (fun m b h1 h2 h3 => by
      obtain ⟨z, hz, rfl⟩ := lall m h1.1 h1.2
      rcases h3 with rfl | ⟨h3, h4⟩
      · have e : hs_ no lf no = 96 := if_neg (Nat.lt_irrefl _)
        have h9 := hI2 no (by omega) (Or.inl e) z hz h2
        rw [e] at h9; exact h9
      · obtain ⟨w, hw, rfl⟩ := lall b h3.1 h3.2
        have e : hs_ no lf w = lf w := if_pos hw
        have h9 := hI2 w (by omega) (Or.inr (by rw [e]; exact h4)) z hz h2
        rw [e] at h9; exact h9))
end C1
