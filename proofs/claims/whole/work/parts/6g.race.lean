/-! ===== the class: the race (1) ===== -/
def vC (T : Sd) (LW : LWt) (V : Nat → Nat) (l a : Nat) (x : Int32) : Nat := if a = T.1 3 then 6 * V (tw T LW l 24 x) else sm (fun o => sx T (6 * a + o) * V (tw T LW l (6 * a + o) x)) (oc T a)
/-- what is read for a lie: lost, at home, or in the line -/
def VW (T : Sd) (V : Nat → Nat) (hv lv : Nat) (L : Nat → Int32) (m : Nat) : Prop := (m = 96 → V m = lv) ∧ (m < 96 → hm T m = true → V m = hv) ∧ (m < 96 → hm T m = false → L m = nI (V m))
theorem pB_m {T : Sd} {LW : LWt} {P : Nat → Nat → Nat} {mine his a : Nat} {x : Int32} : pB T LW P true mine his a x = vC T LW (fun m => P m his) mine a x := rfl
theorem pB_h {T : Sd} {LW : LWt} {P : Nat → Nat → Nat} {mine his a : Nat} {x : Int32} : pB T LW P false mine his a x = vC T LW (fun m => P mine m) his a x := rfl
theorem vC_le {T : Sd} {LW : LWt} {V : Nat → Nat} {l a N : Nat} {x : Int32} (hG : GS T) (hV : ∀ a, V a ≤ N) (ha : a ≤ T.1 3) : vC T LW V l a x ≤ 6 * N := by
  have h := pB_le (T := T) (LW := LW) (P := fun m _ => V m) (im := true) (mine := l) (his := 0) (a := a) (N := N) (x := x) hG (fun a _ => hV a) ha
  rw [pB_m] at h
  exact h
/-- the best of waiting and of the kicks so far -/
def xW (im : Bool) (v : Nat) : Option Nat → Nat
  | none => v
  | some p => bif im then (if p < v then v else p) else (if v < p then v else p)
theorem xW_skip {im : Bool} {v : Nat} {f : Nat → Nat} {cn : Nat → Bool} {n : Nat} (h : cn n = false) : xW im v (ext im f cn (n + 1)) = xW im v (ext im f cn n) := by rw [ext_skip h]
theorem xW_max {v : Nat} {f : Nat → Nat} {cn : Nat → Bool} {n : Nat} (h : cn n = true) : xW true v (ext true f cn (n + 1)) = if xW true v (ext true f cn n) < f n then f n else xW true v (ext true f cn n) := by
  cases e : ext true f cn n with
  | none =>
    rw [ext_none e, h]
    show (if f n < v then v else f n) = if v < f n then f n else v
    split <;> (try split) <;> omega
  | some p =>
    rw [ext_more e, h]
    show xW true v (bif decide (p < f n) then some (f n) else some p) = if (if p < v then v else p) < f n then f n else (if p < v then v else p)
    by_cases e2 : p < f n
    · rw [decide_eq_true e2]
      show (if f n < v then v else f n) = _
      split <;> (try split) <;> (try split) <;> omega
    · rw [decide_eq_false e2]
      show (if p < v then v else p) = _
      split <;> (try split) <;> omega
theorem xW_min {v : Nat} {f : Nat → Nat} {cn : Nat → Bool} {n : Nat} (h : cn n = true) : xW false v (ext false f cn (n + 1)) = if f n < xW false v (ext false f cn n) then f n else xW false v (ext false f cn n) := by
  cases e : ext false f cn n with
  | none =>
    rw [ext_none e, h]
    show (if v < f n then v else f n) = if f n < v then f n else v
    split <;> (try split) <;> omega
  | some p =>
    rw [ext_more e, h]
    show xW false v (bif decide (f n < p) then some (f n) else some p) = if f n < (if v < p then v else p) then f n else (if v < p then v else p)
    by_cases e2 : f n < p
    · rw [decide_eq_true e2]
      show (if v < f n then v else f n) = _
      split <;> (try split) <;> (try split) <;> omega
    · rw [decide_eq_false e2]
      show (if v < p then v else p) = _
      split <;> (try split) <;> omega
theorem xW_end {im : Bool} {f : Nat → Nat} {cn : Nat → Bool} {n : Nat} (h : cn n = true) : exN (ext im f cn (n + 1)) = xW im (f n) (ext im f cn n) := by
  cases e : ext im f cn n with
  | none => rw [ext_none e, h]; rfl
  | some p =>
    rw [ext_more e, h]
    cases im with
    | true =>
      show exN (bif decide (p < f n) then some (f n) else some p) = if p < f n then f n else p
      by_cases e2 : p < f n
      · rw [decide_eq_true e2, if_pos e2]; rfl
      · rw [decide_eq_false e2, if_neg e2]; rfl
    | false =>
      show exN (bif decide (f n < p) then some (f n) else some p) = if f n < p then f n else p
      by_cases e2 : f n < p
      · rw [decide_eq_true e2, if_pos e2]; rfl
      · rw [decide_eq_false e2, if_neg e2]; rfl
theorem xW_le {im : Bool} {v N n : Nat} {f : Nat → Nat} {cn : Nat → Bool} (hv : v ≤ N) (hf : ∀ i, i < n → f i ≤ N) : xW im v (ext im f cn n) ≤ N := by
  cases e : ext im f cn n with
  | none => exact hv
  | some p =>
    obtain ⟨i, h1, h2⟩ := ext_in _ _ e
    have := hf i h1
    cases im with
    | true =>
      show (if p < v then v else p) ≤ N
      split <;> omega
    | false =>
      show (if v < p then v else p) ≤ N
      split <;> omega
theorem n_min {a b : Nat} (ha : a < 2147483648) (hb : b < 2147483648) : (if nI b < nI a then nI b else nI a) = nI (if b < a then b else a) := by
  by_cases e : b < a
  · rw [if_pos e, if_pos (nI_lt e ha)]
  · rw [if_neg e, if_neg (nI_nlt (by omega) hb)]
section C1
variable {g : am_H} {T0 T1 T : Sd} {u0 u1 : Ua} {K : Ck} {rf : Nat → Nat} {p : Nat} {LW : LWt} {S : Nat → Nat} {u td nt cc : Nat} {P Z : Nat → Nat → Nat} {TD : Nat → Nat} {hd : Nat → Bool} {tp : Nat → Int32} {pc : Int32}
variable {no na : Nat} {lf : Nat → Nat}
theorem c_X3_chanceBy {Q : Option Value → am_H → Prop} (hX : CX p T LW T0 T1 g rf) {x : Int32} (hR : RG T LW g rf x) {l a hv lv : Nat} {V : Nat → Nat} (hl : lieOK T l) (hh : hm T l = false) (ha : a ≤ T.1 3) (hcn : cnB T l a = true) (hV : ∀ way, vwA T l a way → VW T V hv lv (K.2.1 110) (tw T LW l way x)) (q : Q (some (.int (nI (vC T LW V l a x)))) (ch g T0 u0 T1 u1 K rf)) : AC am_P 2 42 39 [.ref 108, .int (nI a), .int (nI l), .int (nI hv), .int (nI lv)] (ch g T0 u0 T1 u1 K rf) Q := by
  refine AC.of (ls := [_, _, _, _, _, _, _, _, _, _]) rfl ?_
  obtain ⟨hp, hG, hW, hU, h8t, hr0, hr3, hr4, hr5, hsix, hf6, hf7, hf67⟩ := hX
  have hG0 := hG
  obtain ⟨⟨g0, g0x⟩, ⟨g1, g1x⟩, ⟨g2, g2x⟩, ⟨g3, g3x⟩, g4, ⟨g5, g5x⟩, g6, gsq, goc, gwt, gsp, gfr⟩ := hG
  have hl96 := hl.1
  obtain ⟨r8, f, hf, hrw⟩ := hR
  by_cases e3 : a = T.1 3
  · skip
    refine aw_c (v := nI 0) rfl (by decide) ?_
    refine aw_ist (ls' := [_, _, _, _, _, _, _, _, _, _]) rfl rfl ?_
    refine aw rfl rfl ?_
    refine aw_getfE rfl cg_108 rfl (congrArg Value.ref hr5) ?_
    refine aw rfl rfl ?_
    refine aw_cv (d1 := 0) (L1 := 0) rfl rfl (sa hp).1 rfl rfl (by decide) (by decide) (Nat.le_of_ble_eq_true rfl) (c_X7_endOfWays (sa hp) ha g3x (fun z => absurd z (by omega)) (fun _ => ?_))
    skip
    refine aw_ist (ls' := [_, _, _, _, _, _, _, _, _, _]) rfl rfl ?_
    refine aw rfl rfl ?_
    refine aw_getfE rfl cg_108 rfl (congrArg Value.ref hr5) ?_
    refine aw rfl rfl ?_
    refine aw_cv (d1 := 0) (L1 := 0) rfl rfl (sa hp).1 rfl rfl (by decide) (by decide) (Nat.le_of_ble_eq_true rfl) (c_X7_firstWay (sa hp) ha g3x ?_)
    rw [if_pos e3]
    refine aw_ist (ls' := [_, _, _, _, _, _, _, _, _, _]) rfl rfl ?_
    refine aw_loop (α := Option Value × Option Value) (ll := fun i y => [some (.ref 108), some (.int (nI a)), some (.int (nI l)), some (.int (nI hv)), some (.int (nI lv)), some (.int (nI (sm (fun o => sx T (24 + o) * V (tw T LW l (24 + o) x)) i))), some (.int (nI (24 + 1))), some (.int (nI (24 + i))), y.1, y.2]) (hh := fun i y => (ch g T0 u0 T1 u1 K rf)) (I := fun i y => True) (N := 1) (fun i y hi hI ih => ?_) (fun y hI => ?_) 0 (none, none) (Nat.zero_le _) trivial
    · skip
      have hvA : vwA T l a (24 + i) := Or.inl ⟨e3, by omega⟩
      have hvw : vw T l (24 + i) := ⟨a, hvA⟩
      have hVw := hV _ hvA
      have hfl := hrw l hl hh _ hvw
      have hld := n_land_lie (LW := LW) (x := x) hG0 hl (Or.inl (show 24 + i = 24 by omega))
      have hsx : T.2 2 (24 + i) = nI (sx T (24 + i)) := by rw [show 24 + i = 24 by omega]; unfold sx; rw [gwt]; rfl
      rcases hld with hz | ⟨m, hmm, hz⟩
      · skip
        have e5 : V (tw T LW l (24 + i) x) = lv := hVw.1 (tw_lost hz)
        refine aw rfl rfl ?_
        refine aw rfl rfl ?_
        refine aw_igen rfl (fun c27 => by omega) (fun c27 => ?_)
        refine aw rfl rfl ?_
        refine aw_getf rfl cg_108 rfl ?_
        refine aw rfl rfl ?_
        refine aw rfl rfl ?_
        refine aw_cv (d1 := 0) (L1 := 0) rfl rfl cg_100 rfl rfl (by decide) (by decide) (Nat.le_of_ble_eq_true rfl) (c_X8_landing rfl r8 hf hl96 (by omega) ?_)
        · rw [hfl, hz]
          refine aw_ist (ls' := [_, _, _, _, _, _, _, _, _, _]) rfl rfl ?_
          refine aw rfl rfl ?_
          refine aw_ist (ls' := [_, _, _, _, _, _, _, _, _, _]) rfl rfl ?_
          refine aw rfl rfl ?_
          refine aw_lt rfl (fun _ => ?_) (fun c => absurd (by decide) c)
          refine aw rfl rfl ?_
          refine aw rfl rfl ?_
          refine aw_getfE rfl cg_108 rfl (congrArg Value.ref hr5) ?_
          refine aw rfl rfl ?_
          refine aw_cv (d1 := 0) (L1 := 0) rfl rfl (sa hp).1 rfl rfl (by decide) (by decide) (Nat.le_of_ble_eq_true rfl) (c_X7_sixthsOf (sa hp) (by omega) ?_)
          rw [hsx]
          refine aw rfl rfl ?_
          refine aw_muln rfl ?_
          refine aw_addn rfl ?_
          refine aw_ist (ls' := [_, _, _, _, _, _, _, _, _, _]) rfl rfl ?_
          refine aw_incn (c := 1) (ls' := [_, _, _, _, _, _, _, _, _, _]) rfl rfl (by decide) rfl ?_
          refine aw rfl rfl ?_
          have h9 := ih (some (.int (-1)), some (.int (nI lv))) trivial
          rw [show sm (fun o => sx T (24 + o) * V (tw T LW l (24 + o) x)) (i + 1) = sm (fun o => sx T (24 + o) * V (tw T LW l (24 + o) x)) i + sx T (24 + i) * lv from by rw [← e5]; rfl] at h9
          exact h9
      · have hm96 := hmm.1
        have hT : tw T LW l (24 + i) x = m := tw_on hz (by omega)
        cases hhm : hm T m with
        | true =>
          have e5 : V (tw T LW l (24 + i) x) = hv := hVw.2.1 (by rw [hT]; exact hm96) (by rw [hT]; exact hhm)
          refine aw rfl rfl ?_
          refine aw rfl rfl ?_
          refine aw_igen rfl (fun c27 => by omega) (fun c27 => ?_)
          refine aw rfl rfl ?_
          refine aw_getf rfl cg_108 rfl ?_
          refine aw rfl rfl ?_
          refine aw rfl rfl ?_
          refine aw_cv (d1 := 0) (L1 := 0) rfl rfl cg_100 rfl rfl (by decide) (by decide) (Nat.le_of_ble_eq_true rfl) (c_X8_landing rfl r8 hf hl96 (by omega) ?_)
          rw [hfl, hz]
          refine aw_ist (ls' := [_, _, _, _, _, _, _, _, _, _]) rfl rfl ?_
          refine aw rfl rfl ?_
          refine aw_ist (ls' := [_, _, _, _, _, _, _, _, _, _]) rfl rfl ?_
          refine aw rfl rfl ?_
          refine aw_ltn rfl ?_
          refine aw rfl rfl ?_
          refine aw_c (v := nI 96) rfl (by decide) ?_
          refine aw_igen rfl (fun c55 => by omega) (fun c55 => ?_)
          refine aw rfl rfl ?_
          refine aw_getfE rfl cg_108 rfl (congrArg Value.ref hr5) ?_
          refine aw rfl rfl ?_
          refine aw_cv (d1 := 1) (L1 := 21) rfl rfl (sa hp).1 rfl rfl (by decide) (by decide) (Nat.le_of_ble_eq_true rfl) (c_X7_isHomeLie (sa hp) hm96 (fun _ => ?_) (fun z => absurd (of_decide_eq_true hhm) z))
          · refine aw_eq rfl (fun c => absurd c (by decide)) (fun _ => ?_)
            refine aw rfl rfl ?_
            refine aw rfl rfl ?_
            refine aw_ist (ls' := [_, _, _, _, _, _, _, _, _, _]) rfl rfl ?_
            refine aw rfl rfl ?_
            refine aw rfl rfl ?_
            refine aw_getfE rfl cg_108 rfl (congrArg Value.ref hr5) ?_
            refine aw rfl rfl ?_
            refine aw_cv (d1 := 0) (L1 := 0) rfl rfl (sa hp).1 rfl rfl (by decide) (by decide) (Nat.le_of_ble_eq_true rfl) (c_X7_sixthsOf (sa hp) (by omega) ?_)
            rw [hsx]
            refine aw rfl rfl ?_
            refine aw_muln rfl ?_
            refine aw_addn rfl ?_
            refine aw_ist (ls' := [_, _, _, _, _, _, _, _, _, _]) rfl rfl ?_
            refine aw_incn (c := 1) (ls' := [_, _, _, _, _, _, _, _, _, _]) rfl rfl (by decide) rfl ?_
            refine aw rfl rfl ?_
            have h9 := ih (some (.int (nI m)), some (.int (nI hv))) trivial
            rw [show sm (fun o => sx T (24 + o) * V (tw T LW l (24 + o) x)) (i + 1) = sm (fun o => sx T (24 + o) * V (tw T LW l (24 + o) x)) i + sx T (24 + i) * hv from by rw [← e5]; rfl] at h9
            exact h9
        | false =>
          have e5 : V (tw T LW l (24 + i) x) = V m := by rw [hT]
          have e6 : K.2.1 110 m = nI (V m) := by have h7 := hVw.2.2 (by rw [hT]; exact hm96) (by rw [hT]; exact hhm); rw [hT] at h7; exact h7
          refine aw rfl rfl ?_
          refine aw rfl rfl ?_
          refine aw_igen rfl (fun c27 => by omega) (fun c27 => ?_)
          refine aw rfl rfl ?_
          refine aw_getf rfl cg_108 rfl ?_
          refine aw rfl rfl ?_
          refine aw rfl rfl ?_
          refine aw_cv (d1 := 0) (L1 := 0) rfl rfl cg_100 rfl rfl (by decide) (by decide) (Nat.le_of_ble_eq_true rfl) (c_X8_landing rfl r8 hf hl96 (by omega) ?_)
          rw [hfl, hz]
          refine aw_ist (ls' := [_, _, _, _, _, _, _, _, _, _]) rfl rfl ?_
          refine aw rfl rfl ?_
          refine aw_ist (ls' := [_, _, _, _, _, _, _, _, _, _]) rfl rfl ?_
          refine aw rfl rfl ?_
          refine aw_ltn rfl ?_
          refine aw rfl rfl ?_
          refine aw_c (v := nI 96) rfl (by decide) ?_
          refine aw_igen rfl (fun c55 => by omega) (fun c55 => ?_)
          refine aw rfl rfl ?_
          refine aw_getfE rfl cg_108 rfl (congrArg Value.ref hr5) ?_
          refine aw rfl rfl ?_
          refine aw_cv (d1 := 1) (L1 := 21) rfl rfl (sa hp).1 rfl rfl (by decide) (by decide) (Nat.le_of_ble_eq_true rfl) (c_X7_isHomeLie (sa hp) hm96 (fun z => absurd z (of_decide_eq_false hhm)) (fun _ => ?_))
          · refine aw_eq rfl (fun _ => ?_) (fun c => absurd (by decide) c)
            refine aw rfl rfl ?_
            refine aw_getf rfl cg_108 rfl ?_
            refine aw rfl rfl ?_
            refine aw_ialdE rfl cg_110 rfl (by omega) (by decide) e6 ?_
            refine aw_ist (ls' := [_, _, _, _, _, _, _, _, _, _]) rfl rfl ?_
            refine aw rfl rfl ?_
            refine aw rfl rfl ?_
            refine aw_getfE rfl cg_108 rfl (congrArg Value.ref hr5) ?_
            refine aw rfl rfl ?_
            refine aw_cv (d1 := 0) (L1 := 0) rfl rfl (sa hp).1 rfl rfl (by decide) (by decide) (Nat.le_of_ble_eq_true rfl) (c_X7_sixthsOf (sa hp) (by omega) ?_)
            rw [hsx]
            refine aw rfl rfl ?_
            refine aw_muln rfl ?_
            refine aw_addn rfl ?_
            refine aw_ist (ls' := [_, _, _, _, _, _, _, _, _, _]) rfl rfl ?_
            refine aw_incn (c := 1) (ls' := [_, _, _, _, _, _, _, _, _, _]) rfl rfl (by decide) rfl ?_
            refine aw rfl rfl ?_
            have h9 := ih (some (.int (nI m)), some (.int (nI (V m)))) trivial
            rw [show sm (fun o => sx T (24 + o) * V (tw T LW l (24 + o) x)) (i + 1) = sm (fun o => sx T (24 + o) * V (tw T LW l (24 + o) x)) i + sx T (24 + i) * (V m) from by rw [← e5]; rfl] at h9
            exact h9
    · skip
      have ev : vC T LW V l a x = sm (fun o => sx T (24 + o) * V (tw T LW l (24 + o) x)) 1 := by unfold vC; rw [if_pos e3]; show _ = 0 + sx T (24 + 0) * V (tw T LW l (24 + 0) x); rw [Nat.zero_add]; unfold sx; rw [gwt]; rfl
      refine aw rfl rfl ?_
      refine aw rfl rfl ?_
      refine aw_igen rfl (fun c27 => ?_) (fun c27 => by omega)
      refine aw rfl rfl ?_
      exact aw_iret rfl rfl (by rw [ev] at q; exact q)
  · have h3 : a < T.1 3 := by omega
    have hmc : mck T l a = true := by unfold cnB at hcn; rw [decide_eq_false e3] at hcn; exact hcn
    have hg := goc a h3
    have ho6 := hg.2.2.1
    refine aw_c (v := nI 0) rfl (by decide) ?_
    refine aw_ist (ls' := [_, _, _, _, _, _, _, _, _, _]) rfl rfl ?_
    refine aw rfl rfl ?_
    refine aw_getfE rfl cg_108 rfl (congrArg Value.ref hr5) ?_
    refine aw rfl rfl ?_
    refine aw_cv (d1 := 0) (L1 := 0) rfl rfl (sa hp).1 rfl rfl (by decide) (by decide) (Nat.le_of_ble_eq_true rfl) (c_X7_endOfWays (sa hp) ha g3x (fun _ => ?_) (fun z => absurd z (by omega)))
    rw [hg.1, nI_add, Nat.mul_comm a 6]
    refine aw_ist (ls' := [_, _, _, _, _, _, _, _, _, _]) rfl rfl ?_
    refine aw rfl rfl ?_
    refine aw_getfE rfl cg_108 rfl (congrArg Value.ref hr5) ?_
    refine aw rfl rfl ?_
    refine aw_cv (d1 := 0) (L1 := 0) rfl rfl (sa hp).1 rfl rfl (by decide) (by decide) (Nat.le_of_ble_eq_true rfl) (c_X7_firstWay (sa hp) ha g3x ?_)
    rw [if_neg e3, Nat.mul_comm a 6]
    refine aw_ist (ls' := [_, _, _, _, _, _, _, _, _, _]) rfl rfl ?_
    refine aw_loop (α := Option Value × Option Value) (ll := fun i y => [some (.ref 108), some (.int (nI a)), some (.int (nI l)), some (.int (nI hv)), some (.int (nI lv)), some (.int (nI (sm (fun o => sx T (6 * a + o) * V (tw T LW l (6 * a + o) x)) i))), some (.int (nI (6 * a + (oc T a)))), some (.int (nI (6 * a + i))), y.1, y.2]) (hh := fun i y => (ch g T0 u0 T1 u1 K rf)) (I := fun i y => True) (N := (oc T a)) (fun i y hi hI ih => ?_) (fun y hI => ?_) 0 (none, none) (Nat.zero_le _) trivial
    · skip
      have hvA : vwA T l a (6 * a + i) := Or.inr ⟨h3, hmc, i, hi, rfl⟩
      have hvw : vw T l (6 * a + i) := ⟨a, hvA⟩
      have hVw := hV _ hvA
      have hfl := hrw l hl hh _ hvw
      have hld := n_land_lie (LW := LW) (x := x) hG0 hl (Or.inr ⟨a, i, h3, hi, rfl⟩)
      have hsx : T.2 2 (6 * a + i) = nI (sx T (6 * a + i)) := (hg.2.2.2.2 i hi).1
      rcases hld with hz | ⟨m, hmm, hz⟩
      · skip
        have e5 : V (tw T LW l (6 * a + i) x) = lv := hVw.1 (tw_lost hz)
        refine aw rfl rfl ?_
        refine aw rfl rfl ?_
        refine aw_igen rfl (fun c27 => by omega) (fun c27 => ?_)
        refine aw rfl rfl ?_
        refine aw_getf rfl cg_108 rfl ?_
        refine aw rfl rfl ?_
        refine aw rfl rfl ?_
        refine aw_cv (d1 := 0) (L1 := 0) rfl rfl cg_100 rfl rfl (by decide) (by decide) (Nat.le_of_ble_eq_true rfl) (c_X8_landing rfl r8 hf hl96 (by omega) ?_)
        · rw [hfl, hz]
          refine aw_ist (ls' := [_, _, _, _, _, _, _, _, _, _]) rfl rfl ?_
          refine aw rfl rfl ?_
          refine aw_ist (ls' := [_, _, _, _, _, _, _, _, _, _]) rfl rfl ?_
          refine aw rfl rfl ?_
          refine aw_lt rfl (fun _ => ?_) (fun c => absurd (by decide) c)
          refine aw rfl rfl ?_
          refine aw rfl rfl ?_
          refine aw_getfE rfl cg_108 rfl (congrArg Value.ref hr5) ?_
          refine aw rfl rfl ?_
          refine aw_cv (d1 := 0) (L1 := 0) rfl rfl (sa hp).1 rfl rfl (by decide) (by decide) (Nat.le_of_ble_eq_true rfl) (c_X7_sixthsOf (sa hp) (by omega) ?_)
          rw [hsx]
          refine aw rfl rfl ?_
          refine aw_muln rfl ?_
          refine aw_addn rfl ?_
          refine aw_ist (ls' := [_, _, _, _, _, _, _, _, _, _]) rfl rfl ?_
          refine aw_incn (c := 1) (ls' := [_, _, _, _, _, _, _, _, _, _]) rfl rfl (by decide) rfl ?_
          refine aw rfl rfl ?_
          have h9 := ih (some (.int (-1)), some (.int (nI lv))) trivial
          rw [show sm (fun o => sx T (6 * a + o) * V (tw T LW l (6 * a + o) x)) (i + 1) = sm (fun o => sx T (6 * a + o) * V (tw T LW l (6 * a + o) x)) i + sx T (6 * a + i) * lv from by rw [← e5]; rfl] at h9
          exact h9
      · have hm96 := hmm.1
        have hT : tw T LW l (6 * a + i) x = m := tw_on hz (by omega)
        cases hhm : hm T m with
        | true =>
          have e5 : V (tw T LW l (6 * a + i) x) = hv := hVw.2.1 (by rw [hT]; exact hm96) (by rw [hT]; exact hhm)
          refine aw rfl rfl ?_
          refine aw rfl rfl ?_
          refine aw_igen rfl (fun c27 => by omega) (fun c27 => ?_)
          refine aw rfl rfl ?_
          refine aw_getf rfl cg_108 rfl ?_
          refine aw rfl rfl ?_
          refine aw rfl rfl ?_
          refine aw_cv (d1 := 0) (L1 := 0) rfl rfl cg_100 rfl rfl (by decide) (by decide) (Nat.le_of_ble_eq_true rfl) (c_X8_landing rfl r8 hf hl96 (by omega) ?_)
          rw [hfl, hz]
          refine aw_ist (ls' := [_, _, _, _, _, _, _, _, _, _]) rfl rfl ?_
          refine aw rfl rfl ?_
          refine aw_ist (ls' := [_, _, _, _, _, _, _, _, _, _]) rfl rfl ?_
          refine aw rfl rfl ?_
          refine aw_ltn rfl ?_
          refine aw rfl rfl ?_
          refine aw_c (v := nI 96) rfl (by decide) ?_
          refine aw_igen rfl (fun c55 => by omega) (fun c55 => ?_)
          refine aw rfl rfl ?_
          refine aw_getfE rfl cg_108 rfl (congrArg Value.ref hr5) ?_
          refine aw rfl rfl ?_
          refine aw_cv (d1 := 1) (L1 := 21) rfl rfl (sa hp).1 rfl rfl (by decide) (by decide) (Nat.le_of_ble_eq_true rfl) (c_X7_isHomeLie (sa hp) hm96 (fun _ => ?_) (fun z => absurd (of_decide_eq_true hhm) z))
          · refine aw_eq rfl (fun c => absurd c (by decide)) (fun _ => ?_)
            refine aw rfl rfl ?_
            refine aw rfl rfl ?_
            refine aw_ist (ls' := [_, _, _, _, _, _, _, _, _, _]) rfl rfl ?_
            refine aw rfl rfl ?_
            refine aw rfl rfl ?_
            refine aw_getfE rfl cg_108 rfl (congrArg Value.ref hr5) ?_
            refine aw rfl rfl ?_
            refine aw_cv (d1 := 0) (L1 := 0) rfl rfl (sa hp).1 rfl rfl (by decide) (by decide) (Nat.le_of_ble_eq_true rfl) (c_X7_sixthsOf (sa hp) (by omega) ?_)
            rw [hsx]
            refine aw rfl rfl ?_
            refine aw_muln rfl ?_
            refine aw_addn rfl ?_
            refine aw_ist (ls' := [_, _, _, _, _, _, _, _, _, _]) rfl rfl ?_
            refine aw_incn (c := 1) (ls' := [_, _, _, _, _, _, _, _, _, _]) rfl rfl (by decide) rfl ?_
            refine aw rfl rfl ?_
            have h9 := ih (some (.int (nI m)), some (.int (nI hv))) trivial
            rw [show sm (fun o => sx T (6 * a + o) * V (tw T LW l (6 * a + o) x)) (i + 1) = sm (fun o => sx T (6 * a + o) * V (tw T LW l (6 * a + o) x)) i + sx T (6 * a + i) * hv from by rw [← e5]; rfl] at h9
            exact h9
        | false =>
          have e5 : V (tw T LW l (6 * a + i) x) = V m := by rw [hT]
          have e6 : K.2.1 110 m = nI (V m) := by have h7 := hVw.2.2 (by rw [hT]; exact hm96) (by rw [hT]; exact hhm); rw [hT] at h7; exact h7
          refine aw rfl rfl ?_
          refine aw rfl rfl ?_
          refine aw_igen rfl (fun c27 => by omega) (fun c27 => ?_)
          refine aw rfl rfl ?_
          refine aw_getf rfl cg_108 rfl ?_
          refine aw rfl rfl ?_
          refine aw rfl rfl ?_
          refine aw_cv (d1 := 0) (L1 := 0) rfl rfl cg_100 rfl rfl (by decide) (by decide) (Nat.le_of_ble_eq_true rfl) (c_X8_landing rfl r8 hf hl96 (by omega) ?_)
          rw [hfl, hz]
          refine aw_ist (ls' := [_, _, _, _, _, _, _, _, _, _]) rfl rfl ?_
          refine aw rfl rfl ?_
          refine aw_ist (ls' := [_, _, _, _, _, _, _, _, _, _]) rfl rfl ?_
          refine aw rfl rfl ?_
          refine aw_ltn rfl ?_
          refine aw rfl rfl ?_
          refine aw_c (v := nI 96) rfl (by decide) ?_
          refine aw_igen rfl (fun c55 => by omega) (fun c55 => ?_)
          refine aw rfl rfl ?_
          refine aw_getfE rfl cg_108 rfl (congrArg Value.ref hr5) ?_
          refine aw rfl rfl ?_
          refine aw_cv (d1 := 1) (L1 := 21) rfl rfl (sa hp).1 rfl rfl (by decide) (by decide) (Nat.le_of_ble_eq_true rfl) (c_X7_isHomeLie (sa hp) hm96 (fun z => absurd z (of_decide_eq_false hhm)) (fun _ => ?_))
          · refine aw_eq rfl (fun _ => ?_) (fun c => absurd (by decide) c)
            refine aw rfl rfl ?_
            refine aw_getf rfl cg_108 rfl ?_
            refine aw rfl rfl ?_
            refine aw_ialdE rfl cg_110 rfl (by omega) (by decide) e6 ?_
            refine aw_ist (ls' := [_, _, _, _, _, _, _, _, _, _]) rfl rfl ?_
            refine aw rfl rfl ?_
            refine aw rfl rfl ?_
            refine aw_getfE rfl cg_108 rfl (congrArg Value.ref hr5) ?_
            refine aw rfl rfl ?_
            refine aw_cv (d1 := 0) (L1 := 0) rfl rfl (sa hp).1 rfl rfl (by decide) (by decide) (Nat.le_of_ble_eq_true rfl) (c_X7_sixthsOf (sa hp) (by omega) ?_)
            rw [hsx]
            refine aw rfl rfl ?_
            refine aw_muln rfl ?_
            refine aw_addn rfl ?_
            refine aw_ist (ls' := [_, _, _, _, _, _, _, _, _, _]) rfl rfl ?_
            refine aw_incn (c := 1) (ls' := [_, _, _, _, _, _, _, _, _, _]) rfl rfl (by decide) rfl ?_
            refine aw rfl rfl ?_
            have h9 := ih (some (.int (nI m)), some (.int (nI (V m)))) trivial
            rw [show sm (fun o => sx T (6 * a + o) * V (tw T LW l (6 * a + o) x)) (i + 1) = sm (fun o => sx T (6 * a + o) * V (tw T LW l (6 * a + o) x)) i + sx T (6 * a + i) * (V m) from by rw [← e5]; rfl] at h9
            exact h9
    · skip
      have ev : vC T LW V l a x = sm (fun o => sx T (6 * a + o) * V (tw T LW l (6 * a + o) x)) (oc T a) := by unfold vC; rw [if_neg e3]
      refine aw rfl rfl ?_
      refine aw rfl rfl ?_
      refine aw_igen rfl (fun c27 => ?_) (fun c27 => by omega)
      refine aw rfl rfl ?_
      exact aw_iret rfl rfl (by rw [ev] at q; exact q)
theorem c_X3_myBest {Q : Option Value → am_H → Prop} (hX : CX p T LW T0 T1 g rf) {x : Int32} (hR : RG T LW g rf x) {l hv : Nat} {V : Nat → Nat} (hl : lieOK T l) (hh : hm T l = false) (hV : ∀ a way, vwA T l a way → VW T V hv 0 (K.2.1 110) (tw T LW l way x)) (hB : ∀ m, V m ≤ 100000000) (q : Q (some (.int (nI (exN (ext true (fun a => vC T LW V l a x) (cnB T l) (T.1 3 + 1)))))) (ch g T0 u0 T1 u1 K rf)) : AC am_P 3 71 38 [.ref 108, .int (nI l), .int (nI hv)] (ch g T0 u0 T1 u1 K rf) Q := by
  refine AC.of (ls := [_, _, _, _, _]) rfl ?_
  have hX0 := hX
  obtain ⟨hp, hG, hW, hU, h8t, hr0, hr3, hr4, hr5, hsix, hf6, hf7, hf67⟩ := hX
  have hG0 := hG
  obtain ⟨⟨g0, g0x⟩, ⟨g1, g1x⟩, ⟨g2, g2x⟩, ⟨g3, g3x⟩, g4, ⟨g5, g5x⟩, g6, gsq, goc, gwt, gsp, gfr⟩ := hG
  have hl96 := hl.1
  have hcw : cnB T l (T.1 3) = true := by unfold cnB; rw [decide_eq_true rfl]; rfl
  have hva : ∀ a, a ≤ T.1 3 → vC T LW V l a x ≤ 600000000 := fun a ha => by have := vC_le (LW := LW) (l := l) (x := x) hG0 hB ha; omega
  rw [xW_end hcw] at q
  refine aw rfl rfl ?_
  refine aw rfl rfl ?_
  refine aw_getfE rfl cg_108 rfl (congrArg Value.ref hr5) ?_
  refine aw_getf rfl (sa hp).1 rfl ?_
  refine aw rfl rfl ?_
  refine aw rfl rfl ?_
  refine aw_c (v := nI 0) rfl (by decide) ?_
  refine aw_cv (d1 := 2) (L1 := 42) rfl rfl cg_108 rfl rfl (by decide) (by decide) (Nat.le_of_ble_eq_true rfl) (c_X3_chanceBy hX0 hR (V := V) hl hh (Nat.le_refl _) hcw (hV _) ?_)
  refine aw_ist (ls' := [_, _, _, _, _]) rfl rfl ?_
  refine aw_c (v := nI 0) rfl (by decide) ?_
  refine aw_ist (ls' := [_, _, _, _, _]) rfl rfl ?_
  refine aw_loop (α := Unit) (ll := fun i y => [some (.ref 108), some (.int (nI l)), some (.int (nI hv)), some (.int (nI (xW true (vC T LW V l (T.1 3) x) (ext true (fun a => vC T LW V l a x) (cnB T l) i)))), some (.int (nI i))]) (hh := fun i y => (ch g T0 u0 T1 u1 K rf)) (I := fun i y => True) (N := T.1 3) (fun i y hi hI ih => ?_) (fun y hI => ?_) 0 () (Nat.zero_le _) trivial
  · skip
    have hb := xW_le (im := true) (v := vC T LW V l (T.1 3) x) (f := fun a => vC T LW V l a x) (cn := cnB T l) (n := i) (hva _ (Nat.le_refl _)) (fun j hj => hva j (by omega))
    have hvi := hva i (by omega)
    refine aw rfl rfl ?_
    refine aw rfl rfl ?_
    refine aw_getfE rfl cg_108 rfl (congrArg Value.ref hr5) ?_
    refine aw_getf rfl (sa hp).1 rfl ?_
    refine aw_igen rfl (fun c27 => by omega) (fun c27 => ?_)
    refine aw rfl rfl ?_
    refine aw_getfE rfl cg_108 rfl (congrArg Value.ref hr5) ?_
    refine aw rfl rfl ?_
    refine aw_c (v := nI 3) rfl (by decide) ?_
    refine aw_divn rfl (by omega) (by omega) (by omega) ?_
    refine aw rfl rfl ?_
    refine aw_cv (d1 := 0) (L1 := 0) rfl rfl (sa hp).1 rfl rfl (by decide) (by decide) (Nat.le_of_ble_eq_true rfl) (c_X7_canKickFrom (sa hp) (by omega) hi g3x (fun hck => ?_) (fun hck => ?_))
    · refine aw_eq rfl (fun c => absurd c (by decide)) (fun _ => ?_)
      have hcn : cnB T l i = true := by unfold cnB; rw [(nck_iff hG0 hl hh hi).mp hck, Bool.or_true]
      refine aw rfl rfl ?_
      refine aw rfl rfl ?_
      refine aw rfl rfl ?_
      refine aw rfl rfl ?_
      refine aw rfl rfl ?_
      refine aw_c (v := nI 0) rfl (by decide) ?_
      refine aw_cv (d1 := 2) (L1 := 42) rfl rfl cg_108 rfl rfl (by decide) (by decide) (Nat.le_of_ble_eq_true rfl) (c_X3_chanceBy hX0 hR (V := V) hl hh (by omega) hcn (hV _) ?_)
      refine aw rfl rfl ?_
      have eW : xW true (vC T LW V l (T.1 3) x) (ext true (fun a => vC T LW V l a x) (cnB T l) (i + 1)) = if xW true (vC T LW V l (T.1 3) x) (ext true (fun a => vC T LW V l a x) (cnB T l) i) < vC T LW V l i x then vC T LW V l i x else xW true (vC T LW V l (T.1 3) x) (ext true (fun a => vC T LW V l a x) (cnB T l) i) := xW_max hcn
      rw [n_max (by omega) (by omega), ← eW]
      refine aw_ist (ls' := [_, _, _, _, _]) rfl rfl ?_
      refine aw_incn (c := 1) (ls' := [_, _, _, _, _]) rfl rfl (by decide) rfl ?_
      refine aw rfl rfl ?_
      exact ih () trivial
    · refine aw_eq rfl (fun _ => ?_) (fun c => absurd (by decide) c)
      refine aw_incn (c := 1) (ls' := [_, _, _, _, _]) rfl rfl (by decide) rfl ?_
      refine aw rfl rfl ?_
      have hcn : cnB T l i = false := by unfold cnB; rw [decide_eq_false (by omega), Bool.eq_false_iff.mpr (fun y => hck ((nck_iff hG0 hl hh hi).mpr y))]; rfl
      have h9 := ih () trivial
      rw [xW_skip hcn] at h9
      exact h9
  · skip
    refine aw rfl rfl ?_
    refine aw rfl rfl ?_
    refine aw_getfE rfl cg_108 rfl (congrArg Value.ref hr5) ?_
    refine aw_getf rfl (sa hp).1 rfl ?_
    refine aw_igen rfl (fun c27 => ?_) (fun c27 => by omega)
    refine aw rfl rfl ?_
    exact aw_iret rfl rfl q
theorem c_X3_hisBest {Q : Option Value → am_H → Prop} (hX : CX p T LW T0 T1 g rf) {x : Int32} (hR : RG T LW g rf x) {l lv : Nat} {V : Nat → Nat} (hl : lieOK T l) (hh : hm T l = false) (h96 : K.2.1 110 96 = nI lv) (hV : ∀ a way, vwA T l a way → VW T V 0 lv (K.2.1 110) (tw T LW l way x)) (hB : ∀ m, V m ≤ 100000000) (q : Q (some (.int (nI (exN (ext false (fun a => vC T LW V l a x) (cnB T l) (T.1 3 + 1)))))) (ch g T0 u0 T1 u1 K rf)) : AC am_P 3 71 41 [.ref 108, .int (nI l)] (ch g T0 u0 T1 u1 K rf) Q := by
  refine AC.of (ls := [_, _, _, _]) rfl ?_
  have hX0 := hX
  obtain ⟨hp, hG, hW, hU, h8t, hr0, hr3, hr4, hr5, hsix, hf6, hf7, hf67⟩ := hX
  have hG0 := hG
  obtain ⟨⟨g0, g0x⟩, ⟨g1, g1x⟩, ⟨g2, g2x⟩, ⟨g3, g3x⟩, g4, ⟨g5, g5x⟩, g6, gsq, goc, gwt, gsp, gfr⟩ := hG
  have hl96 := hl.1
  have hcw : cnB T l (T.1 3) = true := by unfold cnB; rw [decide_eq_true rfl]; rfl
  have hva : ∀ a, a ≤ T.1 3 → vC T LW V l a x ≤ 600000000 := fun a ha => by have := vC_le (LW := LW) (l := l) (x := x) hG0 hB ha; omega
  rw [xW_end hcw] at q
  refine aw rfl rfl ?_
  refine aw rfl rfl ?_
  refine aw_getfE rfl cg_108 rfl (congrArg Value.ref hr5) ?_
  refine aw_getf rfl (sa hp).1 rfl ?_
  refine aw rfl rfl ?_
  refine aw_c (v := nI 0) rfl (by decide) ?_
  refine aw rfl rfl ?_
  refine aw_getf rfl cg_108 rfl ?_
  refine aw_c (v := nI 96) rfl (by decide) ?_
  refine aw_ialdE rfl cg_110 rfl (by omega) (by decide) h96 ?_
  refine aw_cv (d1 := 2) (L1 := 42) rfl rfl cg_108 rfl rfl (by decide) (by decide) (Nat.le_of_ble_eq_true rfl) (c_X3_chanceBy hX0 hR (V := V) hl hh (Nat.le_refl _) hcw (hV _) ?_)
  refine aw_ist (ls' := [_, _, _, _]) rfl rfl ?_
  refine aw_c (v := nI 0) rfl (by decide) ?_
  refine aw_ist (ls' := [_, _, _, _]) rfl rfl ?_
  refine aw_loop (α := Unit) (ll := fun i y => [some (.ref 108), some (.int (nI l)), some (.int (nI (xW false (vC T LW V l (T.1 3) x) (ext false (fun a => vC T LW V l a x) (cnB T l) i)))), some (.int (nI i))]) (hh := fun i y => (ch g T0 u0 T1 u1 K rf)) (I := fun i y => True) (N := T.1 3) (fun i y hi hI ih => ?_) (fun y hI => ?_) 0 () (Nat.zero_le _) trivial
  · skip
    have hb := xW_le (im := false) (v := vC T LW V l (T.1 3) x) (f := fun a => vC T LW V l a x) (cn := cnB T l) (n := i) (hva _ (Nat.le_refl _)) (fun j hj => hva j (by omega))
    have hvi := hva i (by omega)
    refine aw rfl rfl ?_
    refine aw rfl rfl ?_
    refine aw_getfE rfl cg_108 rfl (congrArg Value.ref hr5) ?_
    refine aw_getf rfl (sa hp).1 rfl ?_
    refine aw_igen rfl (fun c31 => by omega) (fun c31 => ?_)
    refine aw rfl rfl ?_
    refine aw_getfE rfl cg_108 rfl (congrArg Value.ref hr5) ?_
    refine aw rfl rfl ?_
    refine aw_c (v := nI 3) rfl (by decide) ?_
    refine aw_divn rfl (by omega) (by omega) (by omega) ?_
    refine aw rfl rfl ?_
    refine aw_cv (d1 := 0) (L1 := 0) rfl rfl (sa hp).1 rfl rfl (by decide) (by decide) (Nat.le_of_ble_eq_true rfl) (c_X7_canKickFrom (sa hp) (by omega) hi g3x (fun hck => ?_) (fun hck => ?_))
    · refine aw_eq rfl (fun c => absurd c (by decide)) (fun _ => ?_)
      have hcn : cnB T l i = true := by unfold cnB; rw [(nck_iff hG0 hl hh hi).mp hck, Bool.or_true]
      refine aw rfl rfl ?_
      refine aw rfl rfl ?_
      refine aw rfl rfl ?_
      refine aw rfl rfl ?_
      refine aw_c (v := nI 0) rfl (by decide) ?_
      refine aw rfl rfl ?_
      refine aw_getf rfl cg_108 rfl ?_
      refine aw_c (v := nI 96) rfl (by decide) ?_
      refine aw_ialdE rfl cg_110 rfl (by omega) (by decide) h96 ?_
      refine aw_cv (d1 := 2) (L1 := 42) rfl rfl cg_108 rfl rfl (by decide) (by decide) (Nat.le_of_ble_eq_true rfl) (c_X3_chanceBy hX0 hR (V := V) hl hh (by omega) hcn (hV _) ?_)
      refine aw rfl rfl ?_
      have eW : xW false (vC T LW V l (T.1 3) x) (ext false (fun a => vC T LW V l a x) (cnB T l) (i + 1)) = if vC T LW V l i x < xW false (vC T LW V l (T.1 3) x) (ext false (fun a => vC T LW V l a x) (cnB T l) i) then vC T LW V l i x else xW false (vC T LW V l (T.1 3) x) (ext false (fun a => vC T LW V l a x) (cnB T l) i) := xW_min hcn
      rw [n_min (by omega) (by omega), ← eW]
      refine aw_ist (ls' := [_, _, _, _]) rfl rfl ?_
      refine aw_incn (c := 1) (ls' := [_, _, _, _]) rfl rfl (by decide) rfl ?_
      refine aw rfl rfl ?_
      exact ih () trivial
    · refine aw_eq rfl (fun _ => ?_) (fun c => absurd (by decide) c)
      refine aw_incn (c := 1) (ls' := [_, _, _, _]) rfl rfl (by decide) rfl ?_
      refine aw rfl rfl ?_
      have hcn : cnB T l i = false := by unfold cnB; rw [decide_eq_false (by omega), Bool.eq_false_iff.mpr (fun y => hck ((nck_iff hG0 hl hh hi).mpr y))]; rfl
      have h9 := ih () trivial
      rw [xW_skip hcn] at h9
      exact h9
  · skip
    refine aw rfl rfl ?_
    refine aw rfl rfl ?_
    refine aw_getfE rfl cg_108 rfl (congrArg Value.ref hr5) ?_
    refine aw_getf rfl (sa hp).1 rfl ?_
    refine aw_igen rfl (fun c31 => ?_) (fun c31 => by omega)
    refine aw rfl rfl ?_
    exact aw_iret rfl rfl q
end C1
