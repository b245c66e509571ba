/-! ===== the class: the forecast ===== -/
def FA (T : Sd) (c : Nat → Int32) (F : Nat → Nat → Nat) : Prop := ∀ l w, lieOK T l → w ≤ T.1 4 + 1 → c (l * 4 + w) = nI (F l w)
def fcP (q : Nat) : Prop := q = 106 ∨ q = 107
/-- what holds of the class between its calls, whatever is asked -/
def CX (p : Nat) (T : Sd) (LW : LWt) (T0 T1 : Sd) (g : am_H) (rf : Nat → Nat) : Prop := SP2 p T T0 T1 ∧ GS T ∧ LWs T LW ∧ UT T LW ∧ T.1 8 < 2147483648 ∧ rf 0 = p ∧ rf 3 = p ∧ rf 4 = p ∧ rf 5 = p ∧ am_six g ∧ fcP (rf 6) ∧ fcP (rf 7) ∧ rf 6 ≠ rf 7
theorem CX.to {p : Nat} {T : Sd} {LW : LWt} {T0 T1 : Sd} {g g' : am_H} {rf rf' : Nat → Nat} {r r' : Nat → Option Nat} (h : CX p T LW T0 T1 g rf) (hg : GX g g' r r') (hr : ∀ i, i < 8 → rf' i = rf i) : CX p T LW T0 T1 g' rf' := by
  obtain ⟨h1, h2, h3, h4, h5, h6, h7, h8, h9, h10, h11, h12, h13⟩ := h
  refine ⟨h1, h2, h3, h4, h5, ?_, ?_, ?_, ?_, ?_, ?_, ?_, ?_⟩
  · rw [hr 0 (by decide)]; exact h6
  · rw [hr 3 (by decide)]; exact h7
  · rw [hr 4 (by decide)]; exact h8
  · rw [hr 5 (by decide)]; exact h9
  · exact (hg.1 1 (by decide) (by decide)).trans h10
  · rw [hr 6 (by decide)]; exact h11
  · rw [hr 7 (by decide)]; exact h12
  · rw [hr 6 (by decide), hr 7 (by decide)]; exact h13
section C1
variable {g : am_H} {T0 T1 T : Sd} {u0 u1 : Ua} {K : Ck} {rf : Nat → Nat} {p : Nat} {LW : LWt} {S : Nat → Nat} {u td nt cc : Nat} {P Z : Nat → Nat → Nat} {TD : Nat → Nat} {hd : Nat → Bool} {tp : Nat → Int32} {pc : Int32}
variable {no na : Nat} {lf : Nat → Nat}
theorem cg_fq {q : Nat} (hq : fcP q) : (ch g T0 u0 T1 u1 K rf).2.2 q = .inr (0, 384, .inl (K.2.1 q)) := by
  rcases hq with rfl | rfl
  · exact cg_106
  · exact cg_107
theorem cu_fq {q : Nat} {f : Nat → Int32} (hq : fcP q) : am_up (ch g T0 u0 T1 u1 K rf) q (.inr (0, 384, .inl f)) = ch g T0 u0 T1 u1 (K.1, va_up K.2.1 q f, K.2.2) rf := by
  rcases hq with rfl | rfl
  · exact cu_106
  · exact cu_107
theorem c_placeFor {h : am_H} {Q : Option Value → am_H → Prop} {l w : Nat} (hl : l < 96) (hw : w < 4) (q : Q (some (.int (nI (l * 4 + w)))) h) : AC am_P 0 0 8 [.int (nI l), .int (nI w)] h Q := by
  refine AC.of (ls := [_, _, _]) rfl ?_
  refine aw rfl rfl ?_
  refine aw_ltn rfl ?_
  refine aw rfl rfl ?_
  refine aw_c (v := nI 96) rfl (by decide) ?_
  refine aw_igen rfl (fun c7 => by omega) (fun c7 => ?_)
  refine aw rfl rfl ?_
  refine aw_ltn rfl ?_
  refine aw rfl rfl ?_
  refine aw_c (v := nI 4) rfl (by decide) ?_
  refine aw_igen rfl (fun c16 => by omega) (fun c16 => ?_)
  refine aw_c (v := nI 1) rfl (by decide) ?_
  refine aw rfl rfl ?_
  refine aw_ist (ls' := [_, _, _]) rfl rfl ?_
  refine aw rfl rfl ?_
  refine aw_eq rfl (fun c => absurd c (by decide)) (fun _ => ?_)
  refine aw rfl rfl ?_
  refine aw_c (v := nI 4) rfl (by decide) ?_
  refine aw_muln rfl ?_
  refine aw rfl rfl ?_
  refine aw_addn rfl ?_
  refine aw rfl rfl ?_
  exact aw_iret rfl rfl q
theorem c_placeFor0 {h : am_H} {Q : Option Value → am_H → Prop} {l : Nat} (hl : l < 96) (q : Q (some (.int (-1))) h) : AC am_P 0 0 8 [.int (nI l), .int (-1)] h Q := by
  refine AC.of (ls := [_, _, _]) rfl ?_
  refine aw rfl rfl ?_
  refine aw_ltn rfl ?_
  refine aw rfl rfl ?_
  refine aw_c (v := nI 96) rfl (by decide) ?_
  refine aw_igen rfl (fun c7 => by omega) (fun c7 => ?_)
  refine aw rfl rfl ?_
  refine aw_lt rfl (fun _ => ?_) (fun c => absurd (by decide) c)
  refine aw_c (v := nI 0) rfl (by decide) ?_
  refine aw_ist (ls' := [_, _, _]) rfl rfl ?_
  refine aw rfl rfl ?_
  refine aw_eq rfl (fun _ => ?_) (fun c => absurd (by decide) c)
  refine aw_c (v := -1) rfl (by decide) ?_
  exact aw_iret rfl rfl q
theorem c_chance {Q : Option Value → am_H → Prop} (hq : fcP (rf 6)) {F : Nat → Nat → Nat} (hc : FA T (K.2.1 (rf 6)) F) (h4 : T.1 4 ≤ 2) {l w : Nat} (hl : lieOK T l) (hw : w ≤ T.1 4 + 1) (q : Q (some (.int (nI (F l w)))) (ch g T0 u0 T1 u1 K rf)) : AC am_P 1 22 10 [.ref 105, .int (nI l), .int (nI w)] (ch g T0 u0 T1 u1 K rf) Q := by
  refine AC.of (ls := [_, _, _, _]) rfl ?_
  have hl96 := hl.1
  refine aw rfl rfl ?_
  refine aw rfl rfl ?_
  refine aw_cs (d1 := 0) (L1 := 0) rfl rfl (by decide) (by decide) (Nat.le_of_ble_eq_true rfl) (c_placeFor hl96 (by omega) ?_)
  refine aw_ist (ls' := [_, _, _, _]) rfl rfl ?_
  refine aw rfl rfl ?_
  refine aw_c (v := -1) rfl (by decide) ?_
  refine aw_inem rfl ?_
  refine aw rfl rfl ?_
  refine aw_getfE rfl cg_105 rfl (congrArg Value.ref rfl) ?_
  refine aw rfl rfl ?_
  refine aw_ialdE rfl (cg_fq hq) rfl (by omega) (by decide) (hc l w hl hw) ?_
  exact aw_iret rfl rfl q
theorem c_later {Q : Option Value → am_H → Prop} (hq : fcP (rf 7)) {F : Nat → Nat → Nat} (hc : FA T (K.2.1 (rf 7)) F) (h4 : T.1 4 ≤ 2) {l w : Nat} (hl : lieOK T l) (hw : w ≤ T.1 4 + 1) (q : Q (some (.int (nI (F l w)))) (ch g T0 u0 T1 u1 K rf)) : AC am_P 1 22 7 [.ref 105, .int (nI l), .int (nI w)] (ch g T0 u0 T1 u1 K rf) Q := by
  refine AC.of (ls := [_, _, _, _]) rfl ?_
  have hl96 := hl.1
  refine aw rfl rfl ?_
  refine aw rfl rfl ?_
  refine aw_cs (d1 := 0) (L1 := 0) rfl rfl (by decide) (by decide) (Nat.le_of_ble_eq_true rfl) (c_placeFor hl96 (by omega) ?_)
  refine aw_ist (ls' := [_, _, _, _]) rfl rfl ?_
  refine aw rfl rfl ?_
  refine aw_c (v := -1) rfl (by decide) ?_
  refine aw_inem rfl ?_
  refine aw rfl rfl ?_
  refine aw_getfE rfl cg_105 rfl (congrArg Value.ref rfl) ?_
  refine aw rfl rfl ?_
  refine aw_ialdE rfl (cg_fq hq) rfl (by omega) (by decide) (hc l w hl hw) ?_
  exact aw_iret rfl rfl q
theorem c_later0 {Q : Option Value → am_H → Prop} {l : Nat} (hl : l < 96) (q : Q (some (.int (nI 0))) (ch g T0 u0 T1 u1 K rf)) : AC am_P 1 22 7 [.ref 105, .int (nI l), .int (-1)] (ch g T0 u0 T1 u1 K rf) Q := by
  refine AC.of (ls := [_, _, _, _]) rfl ?_
  refine aw rfl rfl ?_
  refine aw rfl rfl ?_
  refine aw_cs (d1 := 0) (L1 := 0) rfl rfl (by decide) (by decide) (Nat.le_of_ble_eq_true rfl) (c_placeFor0 hl ?_)
  · refine aw_ist (ls' := [_, _, _, _]) rfl rfl ?_
    refine aw rfl rfl ?_
    refine aw_c (v := -1) rfl (by decide) ?_
    refine aw_ine rfl (fun c => absurd (by decide) c) (fun _ => ?_)
    refine aw_c (v := nI 0) rfl (by decide) ?_
    refine aw rfl rfl ?_
    exact aw_iret rfl rfl q
def RG (T : Sd) (LW : LWt) (g : am_H) (rf : Nat → Nat) (x : Int32) : Prop := rowP (rf 8) ∧ ∃ f, g.2.2 (rf 8) = am_ints 2400 f ∧ RWc T LW f x
theorem c_X0_chanceBy {Q : Option Value → am_H → Prop} (hX : CX p T LW T0 T1 g rf) {F : Nat → Nat → Nat} {x : Int32} (hc : FA T (K.2.1 (rf 7)) F) (hR : RG T LW g rf x) {l w a : Nat} (hl : lieOK T l) (hh : hm T l = false) (hw : w ≤ T.1 4 + 1) (ha : a ≤ T.1 3) (q1 : cnB T l a = true → Q (some (.int (nI (va T LW F l w a x)))) (ch g T0 u0 T1 u1 K rf)) (q0 : cnB T l a = false → Q (some (.int (-1))) (ch g T0 u0 T1 u1 K rf)) : AC am_P 2 45 6 [.ref 105, .int (nI a), .int (nI l), .int (nI w)] (ch g T0 u0 T1 u1 K rf) Q := by
  refine AC.of (ls := [_, _, _, _, _, _, _, _, _]) rfl ?_
  obtain ⟨hp, hG, hW, hU, h8t, hr0, hr3, hr4, hr5, hsix, hf6, hf7, hf67⟩ := hX
  have hG0 := hG
  obtain ⟨⟨g0, g0x⟩, ⟨g1, g1x⟩, ⟨g2, g2x⟩, ⟨g3, g3x⟩, g4, ⟨g5, g5x⟩, g6, gsq, goc, gwt, gsp, gfr⟩ := hG
  have hl96 := hl.1
  obtain ⟨r8, f, hf, hrw⟩ := hR
  by_cases e3 : a = T.1 3
  · skip
    by_cases e0 : w = 0
    · skip
      refine aw rfl rfl ?_
      refine aw_getfE rfl cg_105 rfl (congrArg Value.ref hr4) ?_
      refine aw rfl rfl ?_
      refine aw_c (v := nI 3) rfl (by decide) ?_
      refine aw_divn rfl (by omega) (by omega) (by omega) ?_
      refine aw rfl rfl ?_
      refine aw_cv (d1 := 1) (L1 := 22) rfl rfl (sa hp).1 rfl rfl (by decide) (by decide) (Nat.le_of_ble_eq_true rfl) (c_X7_canDoFrom (sa hp) (by omega) ha g3x (fun hck => ?_) (fun h3 => absurd h3 (by omega)))
      · refine aw_ne rfl (fun _ => ?_) (fun c => absurd c (by decide))
        refine aw rfl rfl ?_
        refine aw rfl rfl ?_
        refine aw rfl rfl ?_
        refine aw_c (v := nI 1) rfl (by decide) ?_
        refine aw rfl rfl ?_
        rw [show nI w - nI 1 = (-1 : Int32) from by rw [e0]; decide]
        refine aw_cv (d1 := 1) (L1 := 22) rfl rfl cg_105 rfl rfl (by decide) (by decide) (Nat.le_of_ble_eq_true rfl) (c_later0 hl96 ?_)
        rw [show 0 = (if w = 0 then 0 else F l (w - 1)) from (if_pos e0).symm]
        refine aw_ist (ls' := [_, _, _, _, _, _, _, _, _]) rfl rfl ?_
        refine aw_c (v := nI 0) rfl (by decide) ?_
        refine aw_ist (ls' := [_, _, _, _, _, _, _, _, _]) rfl rfl ?_
        refine aw rfl rfl ?_
        refine aw_getfE rfl cg_105 rfl (congrArg Value.ref hr4) ?_
        refine aw rfl rfl ?_
        refine aw_cv (d1 := 0) (L1 := 0) rfl rfl (sa hp).1 rfl rfl (by decide) (by decide) (Nat.le_of_ble_eq_true rfl) (c_X7_endOfWays (sa hp) ha g3x (fun z => absurd z (by omega)) (fun _ => ?_))
        skip
        refine aw_ist (ls' := [_, _, _, _, _, _, _, _, _]) rfl rfl ?_
        refine aw rfl rfl ?_
        refine aw_getfE rfl cg_105 rfl (congrArg Value.ref hr4) ?_
        refine aw rfl rfl ?_
        refine aw_cv (d1 := 0) (L1 := 0) rfl rfl (sa hp).1 rfl rfl (by decide) (by decide) (Nat.le_of_ble_eq_true rfl) (c_X7_firstWay (sa hp) ha g3x ?_)
        rw [if_pos e3]
        refine aw_ist (ls' := [_, _, _, _, _, _, _, _, _]) rfl rfl ?_
        refine aw_loop (α := Option Value) (ll := fun i y => [some (.ref 105), some (.int (nI a)), some (.int (nI l)), some (.int (nI w)), some (.int (nI (if w = 0 then 0 else F l (w - 1)))), some (.int (nI (sm (fun o => sx T (24 + o) * ld T LW F l w (24 + o) x) i))), some (.int (nI (24 + 1))), some (.int (nI (24 + i))), y]) (hh := fun i y => (ch g T0 u0 T1 u1 K rf)) (I := fun i y => True) (N := 1) (fun i y hi hI ih => ?_) (fun y hI => ?_) 0 none (Nat.zero_le _) trivial
        · skip
          have hvw : vw T l (24 + i) := ⟨a, Or.inl ⟨e3, by omega⟩⟩
          have hfl := hrw l hl hh _ hvw
          have hld := n_land_lie (LW := LW) (x := x) hG0 hl (Or.inl (show 24 + i = 24 by omega))
          have hsx : T.2 2 (24 + i) = nI (sx T (24 + i)) := by rw [show 24 + i = 24 by omega]; unfold sx; rw [gwt]; rfl
          rcases hld with hz | ⟨m, hm, hz⟩
          · skip
            refine aw rfl rfl ?_
            refine aw rfl rfl ?_
            refine aw_igen rfl (fun c53 => by omega) (fun c53 => ?_)
            refine aw rfl rfl ?_
            refine aw_getf rfl cg_105 rfl ?_
            refine aw rfl rfl ?_
            refine aw rfl rfl ?_
            refine aw_cv (d1 := 0) (L1 := 0) rfl rfl cg_100 rfl rfl (by decide) (by decide) (Nat.le_of_ble_eq_true rfl) (c_X8_landing rfl r8 hf hl96 (by omega) ?_)
            · rw [hfl, hz]
              refine aw_ist (ls' := [_, _, _, _, _, _, _, _, _]) rfl rfl ?_
              refine aw rfl rfl ?_
              refine aw rfl rfl ?_
              refine aw_getfE rfl cg_105 rfl (congrArg Value.ref hr4) ?_
              refine aw rfl rfl ?_
              refine aw_cv (d1 := 0) (L1 := 0) rfl rfl (sa hp).1 rfl rfl (by decide) (by decide) (Nat.le_of_ble_eq_true rfl) (c_X7_sixthsOf (sa hp) (by omega) ?_)
              rw [hsx]
              refine aw rfl rfl ?_
              refine aw_c (v := -1) rfl (by decide) ?_
              refine aw_ine rfl (fun c => absurd (by decide) c) (fun _ => ?_)
              refine aw rfl rfl ?_
              refine aw rfl rfl ?_
              refine aw_muln rfl ?_
              refine aw_addn rfl ?_
              refine aw_ist (ls' := [_, _, _, _, _, _, _, _, _]) rfl rfl ?_
              refine aw_incn (c := 1) (ls' := [_, _, _, _, _, _, _, _, _]) rfl rfl (by decide) rfl ?_
              refine aw rfl rfl ?_
              have e5 : sm (fun o => sx T (24 + o) * ld T LW F l w (24 + o) x) (i + 1) = sm (fun o => sx T (24 + o) * ld T LW F l w (24 + o) x) i + sx T (24 + i) * (if w = 0 then 0 else F l (w - 1)) := by show _ + sx T (24 + i) * ld T LW F l w (24 + i) x = _; rw [ld_lost hz]
              have h9 := ih (some (.int (-1))) trivial
              rw [e5] at h9
              exact h9
          · skip
            have hm96 := hm.1
            refine aw rfl rfl ?_
            refine aw rfl rfl ?_
            refine aw_igen rfl (fun c53 => by omega) (fun c53 => ?_)
            refine aw rfl rfl ?_
            refine aw_getf rfl cg_105 rfl ?_
            refine aw rfl rfl ?_
            refine aw rfl rfl ?_
            refine aw_cv (d1 := 0) (L1 := 0) rfl rfl cg_100 rfl rfl (by decide) (by decide) (Nat.le_of_ble_eq_true rfl) (c_X8_landing rfl r8 hf hl96 (by omega) ?_)
            rw [hfl, hz]
            refine aw_ist (ls' := [_, _, _, _, _, _, _, _, _]) rfl rfl ?_
            refine aw rfl rfl ?_
            refine aw rfl rfl ?_
            refine aw_getfE rfl cg_105 rfl (congrArg Value.ref hr4) ?_
            refine aw rfl rfl ?_
            refine aw_cv (d1 := 0) (L1 := 0) rfl rfl (sa hp).1 rfl rfl (by decide) (by decide) (Nat.le_of_ble_eq_true rfl) (c_X7_sixthsOf (sa hp) (by omega) ?_)
            rw [hsx]
            refine aw rfl rfl ?_
            refine aw_c (v := -1) rfl (by decide) ?_
            refine aw_inem rfl ?_
            refine aw rfl rfl ?_
            refine aw rfl rfl ?_
            refine aw rfl rfl ?_
            refine aw_cv (d1 := 1) (L1 := 22) rfl rfl cg_105 rfl rfl (by decide) (by decide) (Nat.le_of_ble_eq_true rfl) (c_later hf7 hc g4 hm (by omega) ?_)
            refine aw_muln rfl ?_
            refine aw_addn rfl ?_
            refine aw_ist (ls' := [_, _, _, _, _, _, _, _, _]) rfl rfl ?_
            refine aw_incn (c := 1) (ls' := [_, _, _, _, _, _, _, _, _]) rfl rfl (by decide) rfl ?_
            refine aw rfl rfl ?_
            rw [← ld_on (F := F) (w := w) hz (by omega)]
            exact ih _ trivial
        · skip
          have ev : va T LW F l w a x = sm (fun o => sx T (24 + o) * ld T LW F l w (24 + o) x) 1 := by unfold va; rw [if_pos e3]; show _ = 0 + sx T (24 + 0) * ld T LW F l w (24 + 0) x; rw [Nat.zero_add]; unfold sx; rw [gwt]; rfl
          refine aw rfl rfl ?_
          refine aw rfl rfl ?_
          refine aw_igen rfl (fun c53 => ?_) (fun c53 => by omega)
          refine aw rfl rfl ?_
          exact aw_iret rfl rfl (by have h9 := (q1 (by unfold cnB; rw [decide_eq_true e3]; rfl)); rw [ev] at h9; exact h9)
    · skip
      refine aw rfl rfl ?_
      refine aw_getfE rfl cg_105 rfl (congrArg Value.ref hr4) ?_
      refine aw rfl rfl ?_
      refine aw_c (v := nI 3) rfl (by decide) ?_
      refine aw_divn rfl (by omega) (by omega) (by omega) ?_
      refine aw rfl rfl ?_
      refine aw_cv (d1 := 1) (L1 := 22) rfl rfl (sa hp).1 rfl rfl (by decide) (by decide) (Nat.le_of_ble_eq_true rfl) (c_X7_canDoFrom (sa hp) (by omega) ha g3x (fun hck => ?_) (fun h3 => absurd h3 (by omega)))
      · refine aw_ne rfl (fun _ => ?_) (fun c => absurd c (by decide))
        refine aw rfl rfl ?_
        refine aw rfl rfl ?_
        refine aw rfl rfl ?_
        refine aw_c (v := nI 1) rfl (by decide) ?_
        refine aw_subn rfl (by omega) ?_
        refine aw_cv (d1 := 1) (L1 := 22) rfl rfl cg_105 rfl rfl (by decide) (by decide) (Nat.le_of_ble_eq_true rfl) (c_later hf7 hc g4 hl (by omega) ?_)
        rw [show F l (w - 1) = (if w = 0 then 0 else F l (w - 1)) from (if_neg e0).symm]
        refine aw_ist (ls' := [_, _, _, _, _, _, _, _, _]) rfl rfl ?_
        refine aw_c (v := nI 0) rfl (by decide) ?_
        refine aw_ist (ls' := [_, _, _, _, _, _, _, _, _]) rfl rfl ?_
        refine aw rfl rfl ?_
        refine aw_getfE rfl cg_105 rfl (congrArg Value.ref hr4) ?_
        refine aw rfl rfl ?_
        refine aw_cv (d1 := 0) (L1 := 0) rfl rfl (sa hp).1 rfl rfl (by decide) (by decide) (Nat.le_of_ble_eq_true rfl) (c_X7_endOfWays (sa hp) ha g3x (fun z => absurd z (by omega)) (fun _ => ?_))
        skip
        refine aw_ist (ls' := [_, _, _, _, _, _, _, _, _]) rfl rfl ?_
        refine aw rfl rfl ?_
        refine aw_getfE rfl cg_105 rfl (congrArg Value.ref hr4) ?_
        refine aw rfl rfl ?_
        refine aw_cv (d1 := 0) (L1 := 0) rfl rfl (sa hp).1 rfl rfl (by decide) (by decide) (Nat.le_of_ble_eq_true rfl) (c_X7_firstWay (sa hp) ha g3x ?_)
        rw [if_pos e3]
        refine aw_ist (ls' := [_, _, _, _, _, _, _, _, _]) rfl rfl ?_
        refine aw_loop (α := Option Value) (ll := fun i y => [some (.ref 105), some (.int (nI a)), some (.int (nI l)), some (.int (nI w)), some (.int (nI (if w = 0 then 0 else F l (w - 1)))), some (.int (nI (sm (fun o => sx T (24 + o) * ld T LW F l w (24 + o) x) i))), some (.int (nI (24 + 1))), some (.int (nI (24 + i))), y]) (hh := fun i y => (ch g T0 u0 T1 u1 K rf)) (I := fun i y => True) (N := 1) (fun i y hi hI ih => ?_) (fun y hI => ?_) 0 none (Nat.zero_le _) trivial
        · skip
          have hvw : vw T l (24 + i) := ⟨a, Or.inl ⟨e3, by omega⟩⟩
          have hfl := hrw l hl hh _ hvw
          have hld := n_land_lie (LW := LW) (x := x) hG0 hl (Or.inl (show 24 + i = 24 by omega))
          have hsx : T.2 2 (24 + i) = nI (sx T (24 + i)) := by rw [show 24 + i = 24 by omega]; unfold sx; rw [gwt]; rfl
          rcases hld with hz | ⟨m, hm, hz⟩
          · skip
            refine aw rfl rfl ?_
            refine aw rfl rfl ?_
            refine aw_igen rfl (fun c53 => by omega) (fun c53 => ?_)
            refine aw rfl rfl ?_
            refine aw_getf rfl cg_105 rfl ?_
            refine aw rfl rfl ?_
            refine aw rfl rfl ?_
            refine aw_cv (d1 := 0) (L1 := 0) rfl rfl cg_100 rfl rfl (by decide) (by decide) (Nat.le_of_ble_eq_true rfl) (c_X8_landing rfl r8 hf hl96 (by omega) ?_)
            · rw [hfl, hz]
              refine aw_ist (ls' := [_, _, _, _, _, _, _, _, _]) rfl rfl ?_
              refine aw rfl rfl ?_
              refine aw rfl rfl ?_
              refine aw_getfE rfl cg_105 rfl (congrArg Value.ref hr4) ?_
              refine aw rfl rfl ?_
              refine aw_cv (d1 := 0) (L1 := 0) rfl rfl (sa hp).1 rfl rfl (by decide) (by decide) (Nat.le_of_ble_eq_true rfl) (c_X7_sixthsOf (sa hp) (by omega) ?_)
              rw [hsx]
              refine aw rfl rfl ?_
              refine aw_c (v := -1) rfl (by decide) ?_
              refine aw_ine rfl (fun c => absurd (by decide) c) (fun _ => ?_)
              refine aw rfl rfl ?_
              refine aw rfl rfl ?_
              refine aw_muln rfl ?_
              refine aw_addn rfl ?_
              refine aw_ist (ls' := [_, _, _, _, _, _, _, _, _]) rfl rfl ?_
              refine aw_incn (c := 1) (ls' := [_, _, _, _, _, _, _, _, _]) rfl rfl (by decide) rfl ?_
              refine aw rfl rfl ?_
              have e5 : sm (fun o => sx T (24 + o) * ld T LW F l w (24 + o) x) (i + 1) = sm (fun o => sx T (24 + o) * ld T LW F l w (24 + o) x) i + sx T (24 + i) * (if w = 0 then 0 else F l (w - 1)) := by show _ + sx T (24 + i) * ld T LW F l w (24 + i) x = _; rw [ld_lost hz]
              have h9 := ih (some (.int (-1))) trivial
              rw [e5] at h9
              exact h9
          · skip
            have hm96 := hm.1
            refine aw rfl rfl ?_
            refine aw rfl rfl ?_
            refine aw_igen rfl (fun c53 => by omega) (fun c53 => ?_)
            refine aw rfl rfl ?_
            refine aw_getf rfl cg_105 rfl ?_
            refine aw rfl rfl ?_
            refine aw rfl rfl ?_
            refine aw_cv (d1 := 0) (L1 := 0) rfl rfl cg_100 rfl rfl (by decide) (by decide) (Nat.le_of_ble_eq_true rfl) (c_X8_landing rfl r8 hf hl96 (by omega) ?_)
            rw [hfl, hz]
            refine aw_ist (ls' := [_, _, _, _, _, _, _, _, _]) rfl rfl ?_
            refine aw rfl rfl ?_
            refine aw rfl rfl ?_
            refine aw_getfE rfl cg_105 rfl (congrArg Value.ref hr4) ?_
            refine aw rfl rfl ?_
            refine aw_cv (d1 := 0) (L1 := 0) rfl rfl (sa hp).1 rfl rfl (by decide) (by decide) (Nat.le_of_ble_eq_true rfl) (c_X7_sixthsOf (sa hp) (by omega) ?_)
            rw [hsx]
            refine aw rfl rfl ?_
            refine aw_c (v := -1) rfl (by decide) ?_
            refine aw_inem rfl ?_
            refine aw rfl rfl ?_
            refine aw rfl rfl ?_
            refine aw rfl rfl ?_
            refine aw_cv (d1 := 1) (L1 := 22) rfl rfl cg_105 rfl rfl (by decide) (by decide) (Nat.le_of_ble_eq_true rfl) (c_later hf7 hc g4 hm (by omega) ?_)
            refine aw_muln rfl ?_
            refine aw_addn rfl ?_
            refine aw_ist (ls' := [_, _, _, _, _, _, _, _, _]) rfl rfl ?_
            refine aw_incn (c := 1) (ls' := [_, _, _, _, _, _, _, _, _]) rfl rfl (by decide) rfl ?_
            refine aw rfl rfl ?_
            rw [← ld_on (F := F) (w := w) hz (by omega)]
            exact ih _ trivial
        · skip
          have ev : va T LW F l w a x = sm (fun o => sx T (24 + o) * ld T LW F l w (24 + o) x) 1 := by unfold va; rw [if_pos e3]; show _ = 0 + sx T (24 + 0) * ld T LW F l w (24 + 0) x; rw [Nat.zero_add]; unfold sx; rw [gwt]; rfl
          refine aw rfl rfl ?_
          refine aw rfl rfl ?_
          refine aw_igen rfl (fun c53 => ?_) (fun c53 => by omega)
          refine aw rfl rfl ?_
          exact aw_iret rfl rfl (by have h9 := (q1 (by unfold cnB; rw [decide_eq_true e3]; rfl)); rw [ev] at h9; exact h9)
  · have h3 : a < T.1 3 := by omega
    have hg := goc a h3
    have ho6 := hg.2.2.1
    by_cases e0 : w = 0
    · skip
      refine aw rfl rfl ?_
      refine aw_getfE rfl cg_105 rfl (congrArg Value.ref hr4) ?_
      refine aw rfl rfl ?_
      refine aw_c (v := nI 3) rfl (by decide) ?_
      refine aw_divn rfl (by omega) (by omega) (by omega) ?_
      refine aw rfl rfl ?_
      refine aw_cv (d1 := 1) (L1 := 22) rfl rfl (sa hp).1 rfl rfl (by decide) (by decide) (Nat.le_of_ble_eq_true rfl) (c_X7_canDoFrom (sa hp) (by omega) ha g3x (fun hck => ?_) (fun _ hck => ?_))
      · have hmc := (nck_iff hG0 hl hh h3).mp (hck.resolve_left e3)
        refine aw_ne rfl (fun _ => ?_) (fun c => absurd c (by decide))
        refine aw rfl rfl ?_
        refine aw rfl rfl ?_
        refine aw rfl rfl ?_
        refine aw_c (v := nI 1) rfl (by decide) ?_
        refine aw rfl rfl ?_
        rw [show nI w - nI 1 = (-1 : Int32) from by rw [e0]; decide]
        refine aw_cv (d1 := 1) (L1 := 22) rfl rfl cg_105 rfl rfl (by decide) (by decide) (Nat.le_of_ble_eq_true rfl) (c_later0 hl96 ?_)
        rw [show 0 = (if w = 0 then 0 else F l (w - 1)) from (if_pos e0).symm]
        refine aw_ist (ls' := [_, _, _, _, _, _, _, _, _]) rfl rfl ?_
        refine aw_c (v := nI 0) rfl (by decide) ?_
        refine aw_ist (ls' := [_, _, _, _, _, _, _, _, _]) rfl rfl ?_
        refine aw rfl rfl ?_
        refine aw_getfE rfl cg_105 rfl (congrArg Value.ref hr4) ?_
        refine aw rfl rfl ?_
        refine aw_cv (d1 := 0) (L1 := 0) rfl rfl (sa hp).1 rfl rfl (by decide) (by decide) (Nat.le_of_ble_eq_true rfl) (c_X7_endOfWays (sa hp) ha g3x (fun _ => ?_) (fun z => absurd z (by omega)))
        rw [hg.1, nI_add, Nat.mul_comm a 6]
        refine aw_ist (ls' := [_, _, _, _, _, _, _, _, _]) rfl rfl ?_
        refine aw rfl rfl ?_
        refine aw_getfE rfl cg_105 rfl (congrArg Value.ref hr4) ?_
        refine aw rfl rfl ?_
        refine aw_cv (d1 := 0) (L1 := 0) rfl rfl (sa hp).1 rfl rfl (by decide) (by decide) (Nat.le_of_ble_eq_true rfl) (c_X7_firstWay (sa hp) ha g3x ?_)
        rw [if_neg e3, Nat.mul_comm a 6]
        refine aw_ist (ls' := [_, _, _, _, _, _, _, _, _]) rfl rfl ?_
        refine aw_loop (α := Option Value) (ll := fun i y => [some (.ref 105), some (.int (nI a)), some (.int (nI l)), some (.int (nI w)), some (.int (nI (if w = 0 then 0 else F l (w - 1)))), some (.int (nI (sm (fun o => sx T (6 * a + o) * ld T LW F l w (6 * a + o) x) i))), some (.int (nI (6 * a + (oc T a)))), some (.int (nI (6 * a + i))), y]) (hh := fun i y => (ch g T0 u0 T1 u1 K rf)) (I := fun i y => True) (N := (oc T a)) (fun i y hi hI ih => ?_) (fun y hI => ?_) 0 none (Nat.zero_le _) trivial
        · skip
          have hvw : vw T l (6 * a + i) := ⟨a, Or.inr ⟨h3, hmc, i, hi, rfl⟩⟩
          have hfl := hrw l hl hh _ hvw
          have hld := n_land_lie (LW := LW) (x := x) hG0 hl (Or.inr ⟨a, i, h3, hi, rfl⟩)
          have hsx : T.2 2 (6 * a + i) = nI (sx T (6 * a + i)) := (hg.2.2.2.2 i hi).1
          rcases hld with hz | ⟨m, hm, hz⟩
          · skip
            refine aw rfl rfl ?_
            refine aw rfl rfl ?_
            refine aw_igen rfl (fun c53 => by omega) (fun c53 => ?_)
            refine aw rfl rfl ?_
            refine aw_getf rfl cg_105 rfl ?_
            refine aw rfl rfl ?_
            refine aw rfl rfl ?_
            refine aw_cv (d1 := 0) (L1 := 0) rfl rfl cg_100 rfl rfl (by decide) (by decide) (Nat.le_of_ble_eq_true rfl) (c_X8_landing rfl r8 hf hl96 (by omega) ?_)
            · rw [hfl, hz]
              refine aw_ist (ls' := [_, _, _, _, _, _, _, _, _]) rfl rfl ?_
              refine aw rfl rfl ?_
              refine aw rfl rfl ?_
              refine aw_getfE rfl cg_105 rfl (congrArg Value.ref hr4) ?_
              refine aw rfl rfl ?_
              refine aw_cv (d1 := 0) (L1 := 0) rfl rfl (sa hp).1 rfl rfl (by decide) (by decide) (Nat.le_of_ble_eq_true rfl) (c_X7_sixthsOf (sa hp) (by omega) ?_)
              rw [hsx]
              refine aw rfl rfl ?_
              refine aw_c (v := -1) rfl (by decide) ?_
              refine aw_ine rfl (fun c => absurd (by decide) c) (fun _ => ?_)
              refine aw rfl rfl ?_
              refine aw rfl rfl ?_
              refine aw_muln rfl ?_
              refine aw_addn rfl ?_
              refine aw_ist (ls' := [_, _, _, _, _, _, _, _, _]) rfl rfl ?_
              refine aw_incn (c := 1) (ls' := [_, _, _, _, _, _, _, _, _]) rfl rfl (by decide) rfl ?_
              refine aw rfl rfl ?_
              have e5 : sm (fun o => sx T (6 * a + o) * ld T LW F l w (6 * a + o) x) (i + 1) = sm (fun o => sx T (6 * a + o) * ld T LW F l w (6 * a + o) x) i + sx T (6 * a + i) * (if w = 0 then 0 else F l (w - 1)) := by show _ + sx T (6 * a + i) * ld T LW F l w (6 * a + i) x = _; rw [ld_lost hz]
              have h9 := ih (some (.int (-1))) trivial
              rw [e5] at h9
              exact h9
          · skip
            have hm96 := hm.1
            refine aw rfl rfl ?_
            refine aw rfl rfl ?_
            refine aw_igen rfl (fun c53 => by omega) (fun c53 => ?_)
            refine aw rfl rfl ?_
            refine aw_getf rfl cg_105 rfl ?_
            refine aw rfl rfl ?_
            refine aw rfl rfl ?_
            refine aw_cv (d1 := 0) (L1 := 0) rfl rfl cg_100 rfl rfl (by decide) (by decide) (Nat.le_of_ble_eq_true rfl) (c_X8_landing rfl r8 hf hl96 (by omega) ?_)
            rw [hfl, hz]
            refine aw_ist (ls' := [_, _, _, _, _, _, _, _, _]) rfl rfl ?_
            refine aw rfl rfl ?_
            refine aw rfl rfl ?_
            refine aw_getfE rfl cg_105 rfl (congrArg Value.ref hr4) ?_
            refine aw rfl rfl ?_
            refine aw_cv (d1 := 0) (L1 := 0) rfl rfl (sa hp).1 rfl rfl (by decide) (by decide) (Nat.le_of_ble_eq_true rfl) (c_X7_sixthsOf (sa hp) (by omega) ?_)
            rw [hsx]
            refine aw rfl rfl ?_
            refine aw_c (v := -1) rfl (by decide) ?_
            refine aw_inem rfl ?_
            refine aw rfl rfl ?_
            refine aw rfl rfl ?_
            refine aw rfl rfl ?_
            refine aw_cv (d1 := 1) (L1 := 22) rfl rfl cg_105 rfl rfl (by decide) (by decide) (Nat.le_of_ble_eq_true rfl) (c_later hf7 hc g4 hm (by omega) ?_)
            refine aw_muln rfl ?_
            refine aw_addn rfl ?_
            refine aw_ist (ls' := [_, _, _, _, _, _, _, _, _]) rfl rfl ?_
            refine aw_incn (c := 1) (ls' := [_, _, _, _, _, _, _, _, _]) rfl rfl (by decide) rfl ?_
            refine aw rfl rfl ?_
            rw [← ld_on (F := F) (w := w) hz (by omega)]
            exact ih _ trivial
        · skip
          have ev : va T LW F l w a x = sm (fun o => sx T (6 * a + o) * ld T LW F l w (6 * a + o) x) (oc T a) := by unfold va; rw [if_neg e3]
          refine aw rfl rfl ?_
          refine aw rfl rfl ?_
          refine aw_igen rfl (fun c53 => ?_) (fun c53 => by omega)
          refine aw rfl rfl ?_
          exact aw_iret rfl rfl (by have h9 := (q1 (by unfold cnB; rw [hmc, Bool.or_true])); rw [ev] at h9; exact h9)
      · refine aw_ne rfl (fun c => absurd (by decide) c) (fun _ => ?_)
        refine aw_c (v := -1) rfl (by decide) ?_
        exact aw_iret rfl rfl (q0 (by unfold cnB; rw [decide_eq_false e3, Bool.eq_false_iff.mpr (fun y => hck ((nck_iff hG0 hl hh h3).mpr y))]; rfl))
    · skip
      refine aw rfl rfl ?_
      refine aw_getfE rfl cg_105 rfl (congrArg Value.ref hr4) ?_
      refine aw rfl rfl ?_
      refine aw_c (v := nI 3) rfl (by decide) ?_
      refine aw_divn rfl (by omega) (by omega) (by omega) ?_
      refine aw rfl rfl ?_
      refine aw_cv (d1 := 1) (L1 := 22) rfl rfl (sa hp).1 rfl rfl (by decide) (by decide) (Nat.le_of_ble_eq_true rfl) (c_X7_canDoFrom (sa hp) (by omega) ha g3x (fun hck => ?_) (fun _ hck => ?_))
      · have hmc := (nck_iff hG0 hl hh h3).mp (hck.resolve_left e3)
        refine aw_ne rfl (fun _ => ?_) (fun c => absurd c (by decide))
        refine aw rfl rfl ?_
        refine aw rfl rfl ?_
        refine aw rfl rfl ?_
        refine aw_c (v := nI 1) rfl (by decide) ?_
        refine aw_subn rfl (by omega) ?_
        refine aw_cv (d1 := 1) (L1 := 22) rfl rfl cg_105 rfl rfl (by decide) (by decide) (Nat.le_of_ble_eq_true rfl) (c_later hf7 hc g4 hl (by omega) ?_)
        rw [show F l (w - 1) = (if w = 0 then 0 else F l (w - 1)) from (if_neg e0).symm]
        refine aw_ist (ls' := [_, _, _, _, _, _, _, _, _]) rfl rfl ?_
        refine aw_c (v := nI 0) rfl (by decide) ?_
        refine aw_ist (ls' := [_, _, _, _, _, _, _, _, _]) rfl rfl ?_
        refine aw rfl rfl ?_
        refine aw_getfE rfl cg_105 rfl (congrArg Value.ref hr4) ?_
        refine aw rfl rfl ?_
        refine aw_cv (d1 := 0) (L1 := 0) rfl rfl (sa hp).1 rfl rfl (by decide) (by decide) (Nat.le_of_ble_eq_true rfl) (c_X7_endOfWays (sa hp) ha g3x (fun _ => ?_) (fun z => absurd z (by omega)))
        rw [hg.1, nI_add, Nat.mul_comm a 6]
        refine aw_ist (ls' := [_, _, _, _, _, _, _, _, _]) rfl rfl ?_
        refine aw rfl rfl ?_
        refine aw_getfE rfl cg_105 rfl (congrArg Value.ref hr4) ?_
        refine aw rfl rfl ?_
        refine aw_cv (d1 := 0) (L1 := 0) rfl rfl (sa hp).1 rfl rfl (by decide) (by decide) (Nat.le_of_ble_eq_true rfl) (c_X7_firstWay (sa hp) ha g3x ?_)
        rw [if_neg e3, Nat.mul_comm a 6]
        refine aw_ist (ls' := [_, _, _, _, _, _, _, _, _]) rfl rfl ?_
        refine aw_loop (α := Option Value) (ll := fun i y => [some (.ref 105), some (.int (nI a)), some (.int (nI l)), some (.int (nI w)), some (.int (nI (if w = 0 then 0 else F l (w - 1)))), some (.int (nI (sm (fun o => sx T (6 * a + o) * ld T LW F l w (6 * a + o) x) i))), some (.int (nI (6 * a + (oc T a)))), some (.int (nI (6 * a + i))), y]) (hh := fun i y => (ch g T0 u0 T1 u1 K rf)) (I := fun i y => True) (N := (oc T a)) (fun i y hi hI ih => ?_) (fun y hI => ?_) 0 none (Nat.zero_le _) trivial
        · skip
          have hvw : vw T l (6 * a + i) := ⟨a, Or.inr ⟨h3, hmc, i, hi, rfl⟩⟩
          have hfl := hrw l hl hh _ hvw
          have hld := n_land_lie (LW := LW) (x := x) hG0 hl (Or.inr ⟨a, i, h3, hi, rfl⟩)
          have hsx : T.2 2 (6 * a + i) = nI (sx T (6 * a + i)) := (hg.2.2.2.2 i hi).1
          rcases hld with hz | ⟨m, hm, hz⟩
          · skip
            refine aw rfl rfl ?_
            refine aw rfl rfl ?_
            refine aw_igen rfl (fun c53 => by omega) (fun c53 => ?_)
            refine aw rfl rfl ?_
            refine aw_getf rfl cg_105 rfl ?_
            refine aw rfl rfl ?_
            refine aw rfl rfl ?_
            refine aw_cv (d1 := 0) (L1 := 0) rfl rfl cg_100 rfl rfl (by decide) (by decide) (Nat.le_of_ble_eq_true rfl) (c_X8_landing rfl r8 hf hl96 (by omega) ?_)
            · rw [hfl, hz]
              refine aw_ist (ls' := [_, _, _, _, _, _, _, _, _]) rfl rfl ?_
              refine aw rfl rfl ?_
              refine aw rfl rfl ?_
              refine aw_getfE rfl cg_105 rfl (congrArg Value.ref hr4) ?_
              refine aw rfl rfl ?_
              refine aw_cv (d1 := 0) (L1 := 0) rfl rfl (sa hp).1 rfl rfl (by decide) (by decide) (Nat.le_of_ble_eq_true rfl) (c_X7_sixthsOf (sa hp) (by omega) ?_)
              rw [hsx]
              refine aw rfl rfl ?_
              refine aw_c (v := -1) rfl (by decide) ?_
              refine aw_ine rfl (fun c => absurd (by decide) c) (fun _ => ?_)
              refine aw rfl rfl ?_
              refine aw rfl rfl ?_
              refine aw_muln rfl ?_
              refine aw_addn rfl ?_
              refine aw_ist (ls' := [_, _, _, _, _, _, _, _, _]) rfl rfl ?_
              refine aw_incn (c := 1) (ls' := [_, _, _, _, _, _, _, _, _]) rfl rfl (by decide) rfl ?_
              refine aw rfl rfl ?_
              have e5 : sm (fun o => sx T (6 * a + o) * ld T LW F l w (6 * a + o) x) (i + 1) = sm (fun o => sx T (6 * a + o) * ld T LW F l w (6 * a + o) x) i + sx T (6 * a + i) * (if w = 0 then 0 else F l (w - 1)) := by show _ + sx T (6 * a + i) * ld T LW F l w (6 * a + i) x = _; rw [ld_lost hz]
              have h9 := ih (some (.int (-1))) trivial
              rw [e5] at h9
              exact h9
          · skip
            have hm96 := hm.1
            refine aw rfl rfl ?_
            refine aw rfl rfl ?_
            refine aw_igen rfl (fun c53 => by omega) (fun c53 => ?_)
            refine aw rfl rfl ?_
            refine aw_getf rfl cg_105 rfl ?_
            refine aw rfl rfl ?_
            refine aw rfl rfl ?_
            refine aw_cv (d1 := 0) (L1 := 0) rfl rfl cg_100 rfl rfl (by decide) (by decide) (Nat.le_of_ble_eq_true rfl) (c_X8_landing rfl r8 hf hl96 (by omega) ?_)
            rw [hfl, hz]
            refine aw_ist (ls' := [_, _, _, _, _, _, _, _, _]) rfl rfl ?_
            refine aw rfl rfl ?_
            refine aw rfl rfl ?_
            refine aw_getfE rfl cg_105 rfl (congrArg Value.ref hr4) ?_
            refine aw rfl rfl ?_
            refine aw_cv (d1 := 0) (L1 := 0) rfl rfl (sa hp).1 rfl rfl (by decide) (by decide) (Nat.le_of_ble_eq_true rfl) (c_X7_sixthsOf (sa hp) (by omega) ?_)
            rw [hsx]
            refine aw rfl rfl ?_
            refine aw_c (v := -1) rfl (by decide) ?_
            refine aw_inem rfl ?_
            refine aw rfl rfl ?_
            refine aw rfl rfl ?_
            refine aw rfl rfl ?_
            refine aw_cv (d1 := 1) (L1 := 22) rfl rfl cg_105 rfl rfl (by decide) (by decide) (Nat.le_of_ble_eq_true rfl) (c_later hf7 hc g4 hm (by omega) ?_)
            refine aw_muln rfl ?_
            refine aw_addn rfl ?_
            refine aw_ist (ls' := [_, _, _, _, _, _, _, _, _]) rfl rfl ?_
            refine aw_incn (c := 1) (ls' := [_, _, _, _, _, _, _, _, _]) rfl rfl (by decide) rfl ?_
            refine aw rfl rfl ?_
            rw [← ld_on (F := F) (w := w) hz (by omega)]
            exact ih _ trivial
        · skip
          have ev : va T LW F l w a x = sm (fun o => sx T (6 * a + o) * ld T LW F l w (6 * a + o) x) (oc T a) := by unfold va; rw [if_neg e3]
          refine aw rfl rfl ?_
          refine aw rfl rfl ?_
          refine aw_igen rfl (fun c53 => ?_) (fun c53 => by omega)
          refine aw rfl rfl ?_
          exact aw_iret rfl rfl (by have h9 := (q1 (by unfold cnB; rw [hmc, Bool.or_true])); rw [ev] at h9; exact h9)
      · refine aw_ne rfl (fun c => absurd (by decide) c) (fun _ => ?_)
        refine aw_c (v := -1) rfl (by decide) ?_
        exact aw_iret rfl rfl (q0 (by unfold cnB; rw [decide_eq_false e3, Bool.eq_false_iff.mpr (fun y => hck ((nck_iff hG0 hl hh h3).mpr y))]; rfl))
end C1
