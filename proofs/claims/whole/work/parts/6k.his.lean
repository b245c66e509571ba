/-! ===== the class: the race (5): his turn ===== -/
theorem aw_copy {d L M pc nx b ii : Nat} {ls : List (Option Value)} {h h' : am_H} {Q : Option Value → am_H → Prop} {p q n0 n1 sp dp n : Nat} {f g : Nat → Int32} (hf : am_at (am_P M).2.2.2 pc = some (.invokestatic ii, nx, 998, b)) (hp : h.2.2 p = .inr (0, n0, .inl f)) (hq : h.2.2 q = .inr (0, n1, .inl g)) (h0 : sp + n ≤ n0) (h1 : dp + n ≤ n1) (hn0 : n0 < 2147483648) (hn1 : n1 < 2147483648) (hp8 : 8 ≤ p) (hq8 : 8 ≤ q) (hd : 1 ≤ d) (hL : 40 ≤ L) (hu : am_up h q (.inr (0, n1, .inl (va_cpy f g sp dp n))) = h') (kk : AW am_P d L M nx ls [] h' Q) : AW am_P d L M pc ls [.int (nI n), .int (nI dp), .ref q, .int (nI sp), .ref p] h Q := by
  subst hu
  refine aw hf ?_ kk
  show (am_cA (h.2.2 p) 0 fun n0 f => am_cA (h.2.2 q) 0 fun n1 g => if nI n < 0 ∨ nI dp < 0 ∨ nI sp < 0 ∨ n0 < (nI sp).toNatClampNeg + (nI n).toNatClampNeg ∨ n1 < (nI dp).toNatClampNeg + (nI n).toNatClampNeg ∨ p < 8 ∨ q < 8 ∨ d < 1 ∨ L < am_cat [] + 40 then none else some (.inl (nx, ls, [], am_up h q (.inr (0, n1, .inl (va_cpy f g (nI sp).toNatClampNeg (nI dp).toNatClampNeg (nI n).toNatClampNeg))))) : am_O) = _
  rw [hp, hq, nI_clamp (by omega), nI_clamp (by omega), nI_clamp (by omega)]
  show (if nI n < 0 ∨ nI dp < 0 ∨ nI sp < 0 ∨ n0 < sp + n ∨ n1 < dp + n ∨ p < 8 ∨ q < 8 ∨ d < 1 ∨ L < 0 + 40 then none else _ : am_O) = _
  rw [if_neg (fun z => by
    rcases z with z | z | z | z | z | z | z | z | z
    · exact nI_pos (by omega) z
    · exact nI_pos (by omega) z
    · exact nI_pos (by omega) z
    all_goals omega)]
section C1
variable {g : am_H} {T0 T1 T : Sd} {u0 u1 : Ua} {K : Ck} {rf : Nat → Nat} {p : Nat} {LW : LWt} {S : Nat → Nat} {u td nt cc : Nat} {P Z : Nat → Nat → Nat} {s1 s2 : Nat → Nat} {x : Int32} {r : Nat} {TD : Nat → Nat} {hd : Nat → Bool} {tp : Nat → Int32} {pc : Int32}
variable {no na : Nat} {lf : Nat → Nat}
theorem l_row {Q : Option Value → am_H → Prop} (hX : CX p T LW T0 T1 g rf) (hL : LLr T K no na lf) (hR : RG T LW g rf x) (hs2 : AR (K.2.1 112) s2) (hB : ∀ a b, P a b ≤ 100000000) (hcl : ∀ l, lieOK T l → hm T l = false → s2 l ≤ r → ∀ a, a ≤ T.1 3 → CLa T LW s2 l a (r + 1) x) (hr : r ≤ 10) {h9 c : Nat} (hc : c < 96) (hPh : ∀ m, m < 96 → hm T m = true → P c m = 0) (hO : ∀ b, b = 96 ∨ (opn T b ∧ s2 b ≤ r + 1) → K.2.1 109 (c * 97 + b) = nI (P c b)) {l4 : Option Value} (q : ∀ y l4, (∀ j, j ≠ 109 → j ≠ 110 → y j = K.2.1 j) → (∀ i, i < no → s2 (lf i) ≤ r → y 109 (c * 97 + lf i) = nI (exN (ext false (fun a => vC T LW (fun m => P c m) (lf i) a x) (cnB T (lf i)) (T.1 3 + 1)))) → y 109 (c * 97 + 96) = nI (6 * P c 96) → (∀ z, z < c * 97 ∨ c * 97 + 97 ≤ z → y 109 z = K.2.1 109 z) → AW am_P 4 94 40 149 [some (.ref 108), some (.int (nI r)), some (.int (nI h9)), some (.int (nI c)), l4] [] (ch g T0 u0 T1 u1 (K.1, y, K.2.2) rf) Q) : AW am_P 4 94 40 35 [some (.ref 108), some (.int (nI r)), some (.int (nI h9)), some (.int (nI c)), l4] [] (ch g T0 u0 T1 u1 K rf) Q := by
  have hX0 := hX
  obtain ⟨hp, hG, hW, hU, h8t, hr0, hr3, hr4, hr5, hsix, hf6, hf7, hf67⟩ := hX
  have hG0 := hG
  obtain ⟨⟨g0, g0x⟩, ⟨g1, g1x⟩, ⟨g2, g2x⟩, ⟨g3, g3x⟩, g4, ⟨g5, g5x⟩, g6, gsq, goc, gwt, gsp, gfr⟩ := hG
  have hL0 := hL
  obtain ⟨l96, lno, l18, l19, lin, lop, lhm, linj, lall, lhome⟩ := hL
  refine aw rfl rfl ?_
  refine aw_getf rfl cg_108 rfl ?_
  refine aw rfl rfl ?_
  refine aw_c (v := nI 97) rfl (by decide) ?_
  refine aw_muln rfl ?_
  refine aw rfl rfl ?_
  refine aw_getf rfl cg_108 rfl ?_
  refine aw_c (v := nI 0) rfl (by decide) ?_
  refine aw_c (v := nI 97) rfl (by decide) ?_
  have hln : ∀ m, m < 97 → (m = 96 ∨ (opn T m ∧ s2 m ≤ r + 1)) → (va_up K.2.1 110 (va_cpy (K.2.1 109) (K.2.1 110) (c * 97) 0 97)) 110 m = nI (P c m) := fun m hm h => by
    rw [vu_at]
    unfold va_cpy
    rw [if_pos ⟨by omega, by omega⟩, Nat.sub_zero]
    exact hO m h
  refine aw_copy (n := 97) (dp := 0) (sp := c * 97) rfl cg_109 cg_110 (by omega) (by decide) (by decide) (by decide) (by decide) (by decide) (by decide) (by decide) cu_110 ?_
  refine aw_c (v := nI 0) rfl (by decide) ?_
  refine aw_ist (ls' := [_, _, _, _, _]) rfl rfl ?_
  refine aw_loop (α := Nat → Nat → Int32) (ll := fun i y => [some (.ref 108), some (.int (nI r)), some (.int (nI h9)), some (.int (nI c)), some (.int (nI i))]) (hh := fun i y => (ch g T0 u0 T1 u1 (K.1, y, K.2.2) rf)) (I := fun i y => (∀ j, j ≠ 109 → y j = (va_up K.2.1 110 (va_cpy (K.2.1 109) (K.2.1 110) (c * 97) 0 97)) j) ∧ (∀ i', i' < i → s2 (lf i') ≤ r → y 109 (c * 97 + lf i') = nI (exN (ext false (fun a => vC T LW (fun m => P c m) (lf i') a x) (cnB T (lf i')) (T.1 3 + 1)))) ∧ (∀ z, z < c * 97 ∨ c * 97 + 96 ≤ z → y 109 z = K.2.1 109 z)) (N := no) (fun i y hi hI ih => ?_) (fun y hI => ?_) 0 (va_up K.2.1 110 (va_cpy (K.2.1 109) (K.2.1 110) (c * 97) 0 97)) (Nat.zero_le _) ⟨fun _ _ => rfl, fun z hz => absurd hz (Nat.not_lt_zero _), fun _ _ => congrFun (vu_ot (by decide)) _⟩
  · skip
    obtain ⟨hK1, hK2, hK3⟩ := hI
    have hy96 : y 110 96 = nI (P c 96) := (congrFun (hK1 110 (by decide)) 96).trans (hln 96 (by decide) (Or.inl rfl))
    have hlie := (lin i (by omega)).2
    have hl96 := hlie.1
    have hs23 := (hs2 (lf i) hl96).2
    have hho := lop i hi
    refine aw rfl rfl ?_
    refine aw rfl rfl ?_
    refine aw_getf rfl cg_108 rfl ?_
    refine aw_getfE rfl cg_100 rfl (congrArg Value.int l18) ?_
    refine aw_igen rfl (fun c65 => by omega) (fun c65 => ?_)
    refine aw rfl rfl ?_
    refine aw_getf rfl cg_108 rfl ?_
    refine aw rfl rfl ?_
    refine aw_getf rfl cg_108 rfl ?_
    refine aw_getf rfl cg_100 rfl ?_
    refine aw rfl rfl ?_
    refine aw_ialdE rfl cg_104 rfl (by omega) (by decide) ((congrFun (hK1 104 (by decide)) i).trans (lin i (by omega)).1) ?_
    refine aw_ialdE rfl cg_112 rfl (by omega) (by decide) ((congrFun (hK1 112 (by decide)) (lf i)).trans (hs2 (lf i) hl96).1) ?_
    refine aw rfl rfl ?_
    refine aw_igtn rfl (fun c84 => ?_) (fun c84 => ?_)
    · refine aw_incn (c := 1) (ls' := [_, _, _, _, _]) rfl rfl (by decide) rfl ?_
      refine aw rfl rfl ?_
      exact ih y ⟨hK1, fun z hz h => by
        by_cases e : z = i
        · subst e; exact absurd h (by omega)
        · exact hK2 z (by omega) h, hK3⟩
    · have hVW : ∀ a way, vwA T (lf i) a way → VW T (fun m => P c m) 0 (P c 96) (y 110) (tw T LW (lf i) way x) := fun a way hvA => by
        refine ⟨fun e => by rw [e], fun h1 h2 => hPh _ h1 h2, fun h1 h2 => ?_⟩
        have hw24 : way = 24 ∨ ∃ j o, j < T.1 3 ∧ o < oc T j ∧ way = 6 * j + o := by
          rcases hvA with ⟨_, h6⟩ | ⟨h5, h6, o, h7, h8⟩
          · exact Or.inl h6
          · exact Or.inr ⟨a, o, h5, h7, h8⟩
        have ha3 : a ≤ T.1 3 := by rcases hvA with ⟨h5, _⟩ | ⟨h5, _⟩ <;> omega
        rcases n_land_lie (LW := LW) (x := x) hG0 hlie hw24 with hz | ⟨m, hmm, hz⟩
        · rw [tw_lost hz] at h1; omega
        · have hm96 := hmm.1
          have hT := tw_on hz (show m < 2147483648 by omega)
          rw [hT] at h1 h2 ⊢
          exact (congrFun (hK1 110 (by decide)) m).trans (hln m (by omega) (Or.inr ⟨⟨hmm, h2⟩, hcl _ hlie hho (by omega) a ha3 way hvA _ hm96 hz⟩))
      refine aw rfl rfl ?_
      refine aw_getf rfl cg_108 rfl ?_
      refine aw rfl rfl ?_
      refine aw_c (v := nI 97) rfl (by decide) ?_
      refine aw_muln rfl ?_
      refine aw rfl rfl ?_
      refine aw_getf rfl cg_108 rfl ?_
      refine aw_getf rfl cg_100 rfl ?_
      refine aw rfl rfl ?_
      refine aw_ialdE rfl cg_104 rfl (by omega) (by decide) ((congrFun (hK1 104 (by decide)) i).trans (lin i (by omega)).1) ?_
      refine aw_addn rfl ?_
      refine aw rfl rfl ?_
      refine aw rfl rfl ?_
      refine aw_getf rfl cg_108 rfl ?_
      refine aw_getf rfl cg_100 rfl ?_
      refine aw rfl rfl ?_
      refine aw_ialdE rfl cg_104 rfl (by omega) (by decide) ((congrFun (hK1 104 (by decide)) i).trans (lin i (by omega)).1) ?_
      refine aw_cv (d1 := 3) (L1 := 71) rfl rfl cg_108 rfl rfl (by decide) (by decide) (Nat.le_of_ble_eq_true rfl) (c_X3_hisBest (K := (K.1, y, K.2.2)) (V := fun m => P c m) hX0 hR hlie hho hy96 hVW (fun m => hB c m) ?_)
      refine aw_iastU rfl cg_109 rfl (by omega) (by decide) (by decide) cu_109 ?_
      refine aw_incn (c := 1) (ls' := [_, _, _, _, _]) rfl rfl (by decide) rfl ?_
      refine aw rfl rfl ?_
      exact ih (va_up y 109 (upd (y 109) (c * 97 + lf i) (nI (exN (ext false (fun a => vC T LW (fun m => P c m) (lf i) a x) (cnB T (lf i)) (T.1 3 + 1)))))) ⟨fun j hj => (vu_ot hj).trans (hK1 j hj), fun z hz h => by
        rw [vu_at]
        by_cases e : z = i
        · subst e; exact upd_at
        · have := linj z i (by omega) hi
          rw [upd_ne (by omega)]; exact hK2 z (by omega) h, fun z hz => by
        rw [vu_at, upd_ne (by omega)]; exact hK3 z hz⟩
  · skip
    obtain ⟨hK1, hK2, hK3⟩ := hI
    have hy96 : y 110 96 = nI (P c 96) := (congrFun (hK1 110 (by decide)) 96).trans (hln 96 (by decide) (Or.inl rfl))
    refine aw rfl rfl ?_
    refine aw rfl rfl ?_
    refine aw_getf rfl cg_108 rfl ?_
    refine aw_getfE rfl cg_100 rfl (congrArg Value.int l18) ?_
    refine aw_igen rfl (fun c65 => ?_) (fun c65 => by omega)
    refine aw rfl rfl ?_
    refine aw_getf rfl cg_108 rfl ?_
    refine aw rfl rfl ?_
    refine aw_c (v := nI 97) rfl (by decide) ?_
    refine aw_muln rfl ?_
    refine aw_c (v := nI 96) rfl (by decide) ?_
    refine aw_addn rfl ?_
    refine aw_c (v := nI 6) rfl (by decide) ?_
    refine aw rfl rfl ?_
    refine aw_getf rfl cg_108 rfl ?_
    refine aw_c (v := nI 96) rfl (by decide) ?_
    refine aw_ialdE rfl cg_110 rfl (by omega) (by decide) hy96 ?_
    refine aw_muln rfl ?_
    refine aw_iastU rfl cg_109 rfl (by omega) (by decide) (by decide) cu_109 ?_
    exact q (va_up y 109 (upd (y 109) (c * 97 + 96) (nI (6 * P c 96)))) _ (fun j h1 h2 => (vu_ot h1).trans ((hK1 j h1).trans (vu_ot h2))) (fun z hz h => by
      have := (lin z (by omega)).2.1
      rw [vu_at, upd_ne (by omega)]; exact hK2 z hz h) (by rw [vu_at]; exact upd_at) (fun z hz => by rw [vu_at, upd_ne (by omega)]; exact hK3 z (by omega))
theorem c_X3_takeHisTurn {Q : Option Value → am_H → Prop} (hX : CX p T LW T0 T1 g rf) (hL : LLr T K no na lf) (hR : RG T LW g rf x) (hs2 : AR (K.2.1 112) s2) (hB : ∀ a b, P a b ≤ 100000000) (hcl : ∀ l, lieOK T l → hm T l = false → s2 l ≤ r → ∀ a, a ≤ T.1 3 → CLa T LW s2 l a (r + 1) x) (hr : r ≤ 10) (hs1 : AR (K.2.1 111) s1) (hPh : ∀ c m, c < 96 → hm T c = false → m < 96 → hm T m = true → P c m = 0) (hO : ∀ c b, opn T c → s1 c ≤ r + 1 → (b = 96 ∨ (opn T b ∧ s2 b ≤ r + 1)) → K.2.1 109 (c * 97 + b) = nI (P c b)) (q : ∀ y, (∀ j, j ≠ 109 → j ≠ 110 → y j = K.2.1 j) → (∀ c b, opn T c → s1 c ≤ r + 1 → opn T b → s2 b ≤ r → y 109 (c * 97 + b) = nI (exN (ext false (fun a => vC T LW (fun m => P c m) b a x) (cnB T b) (T.1 3 + 1)))) → (∀ c, opn T c → s1 c ≤ r + 1 → y 109 (c * 97 + 96) = nI (6 * P c 96)) → Q none (ch g T0 u0 T1 u1 (K.1, y, K.2.2) rf)) : AC am_P 4 94 40 [.ref 108, .int (nI r)] (ch g T0 u0 T1 u1 K rf) Q := by
  refine AC.of (ls := [_, _, _, _, _]) rfl ?_
  have hX0 := hX
  obtain ⟨hp, hG, hW, hU, h8t, hr0, hr3, hr4, hr5, hsix, hf6, hf7, hf67⟩ := hX
  have hG0 := hG
  obtain ⟨⟨g0, g0x⟩, ⟨g1, g1x⟩, ⟨g2, g2x⟩, ⟨g3, g3x⟩, g4, ⟨g5, g5x⟩, g6, gsq, goc, gwt, gsp, gfr⟩ := hG
  have hL0 := hL
  obtain ⟨l96, lno, l18, l19, lin, lop, lhm, linj, lall, lhome⟩ := hL
  refine aw_c (v := nI 0) rfl (by decide) ?_
  refine aw_ist (ls' := [_, _, _, _, _]) rfl rfl ?_
  refine aw_loop (α := (Nat → Nat → Int32) × Option Value × Option Value) (ll := fun i y => [some (.ref 108), some (.int (nI r)), some (.int (nI i)), y.2.1, y.2.2]) (hh := fun i y => (ch g T0 u0 T1 u1 (K.1, y.1, K.2.2) rf)) (I := fun i y => (∀ j, j ≠ 109 → j ≠ 110 → y.1 j = K.2.1 j) ∧ (∀ h, h < i → s1 (lf h) ≤ r + 1 → (∀ z, z < no → s2 (lf z) ≤ r → y.1 109 (lf h * 97 + lf z) = nI (exN (ext false (fun a => vC T LW (fun m => P (lf h) m) (lf z) a x) (cnB T (lf z)) (T.1 3 + 1)))) ∧ y.1 109 (lf h * 97 + 96) = nI (6 * P (lf h) 96)) ∧ (∀ h, i ≤ h → h < no → ∀ b, b < 97 → y.1 109 (lf h * 97 + b) = K.2.1 109 (lf h * 97 + b))) (N := no) (fun i y hi hI ih => ?_) (fun y hI => ?_) 0 (K.2.1, none, none) (Nat.zero_le _) ⟨fun _ _ _ => rfl, fun z hz => absurd hz (Nat.not_lt_zero _), fun _ _ _ _ _ => rfl⟩
  · skip
    obtain ⟨y, l3, l4⟩ := y
    obtain ⟨hI1, hI2, hI3⟩ := hI
    dsimp only at hI1 hI2 hI3 ⊢
    have hlie := (lin i (by omega)).2
    have hl96 := hlie.1
    have hho := lop i hi
    have hs3 := (hs1 (lf i) hl96).2
    refine aw rfl rfl ?_
    refine aw rfl rfl ?_
    refine aw_getf rfl cg_108 rfl ?_
    refine aw_getfE rfl cg_100 rfl (congrArg Value.int l18) ?_
    refine aw_igen rfl (fun c10 => by omega) (fun c10 => ?_)
    refine aw rfl rfl ?_
    refine aw_getf rfl cg_108 rfl ?_
    refine aw_getf rfl cg_100 rfl ?_
    refine aw rfl rfl ?_
    refine aw_ialdE rfl cg_104 rfl (by omega) (by decide) ((congrFun (hI1 104 (by decide) (by decide)) i).trans (lin i (by omega)).1) ?_
    refine aw_ist (ls' := [_, _, _, _, _]) rfl rfl ?_
    refine aw rfl rfl ?_
    refine aw_getf rfl cg_108 rfl ?_
    refine aw rfl rfl ?_
    refine aw_ialdE rfl cg_111 rfl (by omega) (by decide) ((congrFun (hI1 111 (by decide) (by decide)) (lf i)).trans (hs1 (lf i) hl96).1) ?_
    refine aw rfl rfl ?_
    refine aw_c (v := nI 1) rfl (by decide) ?_
    refine aw_addn rfl ?_
    refine aw_igtn rfl (fun c32 => ?_) (fun c32 => ?_)
    · refine aw_incn (c := 1) (ls' := [_, _, _, _, _]) rfl rfl (by decide) rfl ?_
      refine aw rfl rfl ?_
      exact ih (y, _, _) ⟨hI1, fun h hh h1 => by
        by_cases e : h = i
        · subst e; omega
        · exact hI2 h (by omega) h1, fun h h1 h2 => hI3 h (by omega) h2⟩
    · refine l_row (K := (K.1, y, K.2.2)) (h9 := i) (c := lf i) hX0 (hL0.a2 (hI1 104 (by decide) (by decide))) hR (by show AR (y 112) s2; rw [hI1 112 (by decide) (by decide)]; exact hs2) hB hcl hr hl96 (fun m h1 h2 => hPh _ m hl96 hho h1 h2) (fun b hb => by show y 109 _ = _; rw [hI3 i (Nat.le_refl _) hi b (by rcases hb with h | h; omega; have := h.1.1.1; omega)]; exact hO _ b ⟨hlie, hho⟩ (by omega) hb) (fun y9 l9 d1 d2 d3 d4 => ?_)
      refine aw_incn (c := 1) (ls' := [_, _, _, _, _]) rfl rfl (by decide) rfl ?_
      refine aw rfl rfl ?_
      exact ih (y9, _, l9) ⟨fun j h1 h2 => (d1 j h1 h2).trans (hI1 j h1 h2), fun h hh h1 => by
        by_cases e : h = i
        · subst e; exact ⟨d2, d3⟩
        · have := linj h i (by omega) hi
          have h5 := hI2 h (by omega) h1
          exact ⟨fun z hz h2 => (d4 _ (by have := (lin z (by omega)).2.1; omega)).trans (h5.1 z hz h2), (d4 _ (by omega)).trans h5.2⟩, fun h h1 h2 b hb => (d4 _ (by have := linj h i (by omega) hi; omega)).trans (hI3 h (by omega) h2 b hb)⟩
  · skip
    obtain ⟨y, l3, l4⟩ := y
    obtain ⟨hI1, hI2, hI3⟩ := hI
    dsimp only at hI1 hI2 hI3 ⊢
    refine aw rfl rfl ?_
    refine aw rfl rfl ?_
    refine aw_getf rfl cg_108 rfl ?_
    refine aw_getfE rfl cg_100 rfl (congrArg Value.int l18) ?_
    refine aw_igen rfl (fun c10 => ?_) (fun c10 => by omega)
    exact aw_vret rfl rfl (q y hI1 (fun c b h1 h2 h3 h4 => by
      obtain ⟨z, hz, rfl⟩ := lall c h1.1 h1.2
      obtain ⟨w, hw, rfl⟩ := lall b h3.1 h3.2
      exact (hI2 z hz h2).1 w hw h4) (fun c h1 h2 => by
      obtain ⟨z, hz, rfl⟩ := lall c h1.1 h1.2
      exact (hI2 z hz h2).2))
end C1
