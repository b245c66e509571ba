/-! ===== the class: layers of the forecast ===== -/
def bsV : Option (Nat × Nat) → Nat
  | none => 0
  | some p => p.2
def glB (T : Sd) : Option Nat → Nat → Bool
  | none => hm T
  | some s => fun l => decide (l / 3 = s)
theorem act_bsV {T : Sd} {LW : LWt} {F : Nat → Nat → Nat} {l w : Nat} {x : Int32} : bsV (bs (fun a => va T LW F l w a x) (cnB T l) (T.1 3 + 1)) = va T LW F l w (act T LW F none l w x) x := by
  obtain ⟨p, hp⟩ := bs_some (T := T) (l := l) (f := fun a => va T LW F l w a x)
  have h2 := bs_lt _ _ _ _ hp
  have e : act T LW F none l w x = p.1 := by show bsA (bs _ _ _) = _; rw [hp]; rfl
  rw [hp, e]
  exact h2.2.1
theorem bsV_le {f : Nat → Nat} {cn : Nat → Bool} {N : Nat} : ∀ n, (∀ i, i < n → f i ≤ N) → bsV (bs f cn n) ≤ N := by
  intro n h
  cases e : bs f cn n with
  | none => exact Nat.zero_le _
  | some p =>
    have h2 := bs_lt _ _ _ _ e
    show p.2 ≤ N
    rw [h2.2.1]
    exact h _ h2.1
theorem bsV_yes {f : Nat → Nat} {cn : Nat → Bool} {n : Nat} (h : cn n = true) : bsV (bs f cn (n + 1)) = if bsV (bs f cn n) < f n then f n else bsV (bs f cn n) := by
  cases e : bs f cn n with
  | none =>
    rw [bs_none e, h]
    show f n = if 0 < f n then f n else 0
    split <;> omega
  | some p =>
    rw [bs_more e, h]
    show bsV (bif decide (p.2 < f n) then _ else _) = if p.2 < f n then f n else p.2
    by_cases e2 : p.2 < f n
    · rw [decide_eq_true e2, if_pos e2]; rfl
    · rw [decide_eq_false e2, if_neg e2]; rfl
section C1
variable {g : am_H} {T0 T1 T : Sd} {u0 u1 : Ua} {K : Ck} {rf : Nat → Nat} {p : Nat} {LW : LWt} {S : Nat → Nat} {u td nt cc : Nat} {P Z : Nat → Nat → Nat} {TD : Nat → Nat} {hd : Nat → Bool} {tp : Nat → Int32} {pc : Int32}
variable {no na : Nat} {lf : Nat → Nat}
theorem va_twice {α : Type} {f : Nat → α} {i : Nat} {x : α} {h : α → α} : va_up (va_up f i x) i (h (va_up f i x i)) = va_up f i (h x) := by
  rw [vu_at]
  funext n
  unfold va_up
  by_cases e : n = i
  · rw [if_pos e, if_pos e]
  · rw [if_neg e, if_neg e, if_neg e]
theorem n_max {a b : Nat} (ha : a < 2147483648) (hb : b < 2147483648) : (if nI a < nI b then nI b else nI a) = nI (if a < b then b else a) := by
  by_cases e : a < b
  · rw [if_pos e, if_pos (nI_lt e hb)]
  · rw [if_neg e, if_neg (nI_nlt (by omega) ha)]
theorem n_maxm {a : Nat} (ha : a < 2147483648) : (if nI a < (-1 : Int32) then (-1 : Int32) else nI a) = nI a := if_neg (fun y => absurd (Int32.lt_trans y (by decide : (-1 : Int32) < 0)) (nI_pos ha))
theorem c_X0_chanceThere {Q : Option Value → am_H → Prop} (hX : CX p T LW T0 T1 g rf) {F : Nat → Nat → Nat} {x : Int32} {r : Option Nat} (hr : ∀ j, r = some j → j < T.1 3) (hr23 : K.1 23 = rI r) (hc : FA T (K.2.1 (rf 7)) F) (hF : ∀ l w, F l w < 300000000) (hR : RG T LW g rf x) {l w : Nat} (hl : lieOK T l) (hh : hm T l = false) (hw : w ≤ T.1 4 + 1) (q : Q (some (.int (nI (va T LW F l w (act T LW F r l w x) x)))) (ch g T0 u0 T1 u1 K rf)) : AC am_P 3 73 5 [.ref 105, .int (nI l), .int (nI w)] (ch g T0 u0 T1 u1 K rf) Q := by
  refine AC.of (ls := [_, _, _, _, _]) rfl ?_
  have hX0 := hX
  obtain ⟨hp, hG, hW, hU, h8t, hr0, hr3, hr4, hr5, hsix, hf6, hf7, hf67⟩ := hX
  have hG0 := hG
  obtain ⟨⟨g0, g0x⟩, ⟨g1, g1x⟩, ⟨g2, g2x⟩, ⟨g3, g3x⟩, g4, ⟨g5, g5x⟩, g6, gsq, goc, gwt, gsp, gfr⟩ := hG
  have hl96 := hl.1
  cases r with
  | some j =>
    have hj := hr j rfl
    refine aw rfl rfl ?_
    refine aw_getfE rfl cg_105 rfl (congrArg Value.int hr23) ?_
    refine aw_c (v := -1) rfl (by decide) ?_
    refine aw_ieqm rfl ?_
    refine aw rfl rfl ?_
    refine aw_getfE rfl cg_105 rfl (congrArg Value.ref hr4) ?_
    refine aw rfl rfl ?_
    refine aw_c (v := nI 3) rfl (by decide) ?_
    refine aw_divn rfl (by omega) (by omega) (by omega) ?_
    refine aw rfl rfl ?_
    refine aw_getfE rfl cg_105 rfl (congrArg Value.int hr23) ?_
    refine aw_cv (d1 := 0) (L1 := 0) rfl rfl (sa hp).1 rfl rfl (by decide) (by decide) (Nat.le_of_ble_eq_true rfl) (c_X7_canKickFrom (sa hp) (by omega) hj g3x (fun hck => ?_) (fun hck => ?_))
    · refine aw_ist (ls' := [_, _, _, _, _]) rfl rfl ?_
      refine aw rfl rfl ?_
      refine aw rfl rfl ?_
      refine aw_eq rfl (fun c => absurd c (by decide)) (fun _ => ?_)
      have hm1 := (nck_iff hG0 hl hh hj).mp hck
      refine aw rfl rfl ?_
      refine aw_getfE rfl cg_105 rfl (congrArg Value.int hr23) ?_
      refine aw rfl rfl ?_
      refine aw rfl rfl ?_
      refine aw rfl rfl ?_
      refine aw_cv (d1 := 2) (L1 := 45) rfl rfl cg_105 rfl rfl (by decide) (by decide) (Nat.le_of_ble_eq_true rfl) (c_X0_chanceBy hX0 hc hR hl hh hw (by omega) (fun _ => ?_) (fun z => absurd z (by unfold cnB; rw [hm1, Bool.or_true]; decide)))
      exact aw_iret rfl rfl (by have e : act T LW F (some j) l w x = j := if_pos hm1; rw [e] at q; exact q)
    · refine aw_ist (ls' := [_, _, _, _, _]) rfl rfl ?_
      refine aw rfl rfl ?_
      refine aw rfl rfl ?_
      refine aw_eq rfl (fun _ => ?_) (fun c => absurd (by decide) c)
      have hm1 : ¬ mck T l j = true := fun y => hck ((nck_iff hG0 hl hh hj).mpr y)
      refine aw rfl rfl ?_
      refine aw_getfE rfl cg_105 rfl (congrArg Value.ref hr4) ?_
      refine aw_getf rfl (sa hp).1 rfl ?_
      refine aw rfl rfl ?_
      refine aw rfl rfl ?_
      refine aw_cv (d1 := 2) (L1 := 45) rfl rfl cg_105 rfl rfl (by decide) (by decide) (Nat.le_of_ble_eq_true rfl) (c_X0_chanceBy hX0 hc hR hl hh hw (Nat.le_refl _) (fun _ => ?_) (fun z => absurd z (by unfold cnB; rw [decide_eq_true rfl]; simp)))
      exact aw_iret rfl rfl (by have e : act T LW F (some j) l w x = T.1 3 := if_neg hm1; rw [e] at q; exact q)
  | none =>
    have hva : ∀ a, a ≤ T.1 3 → va T LW F l w a x ≤ 1800000000 := fun a ha => by have := va_le (LW := LW) (l := l) (w := w) (x := x) hG0 (fun l w => Nat.le_of_lt (hF l w)) ha; omega
    refine aw rfl rfl ?_
    refine aw_getfE rfl cg_105 rfl (congrArg Value.int hr23) ?_
    refine aw_c (v := -1) rfl (by decide) ?_
    refine aw_ieq rfl (fun _ => ?_) (fun c => absurd (by decide) c)
    refine aw_c (v := nI 0) rfl (by decide) ?_
    refine aw_ist (ls' := [_, _, _, _, _]) rfl rfl ?_
    refine aw_c (v := nI 0) rfl (by decide) ?_
    refine aw_ist (ls' := [_, _, _, _, _]) rfl rfl ?_
    refine aw_loop (α := Unit) (ll := fun i y => [some (.ref 105), some (.int (nI l)), some (.int (nI w)), some (.int (nI (bsV (bs (fun a => va T LW F l w a x) (cnB T l) i)))), some (.int (nI i))]) (hh := fun i y => (ch g T0 u0 T1 u1 K rf)) (I := fun i y => True) (N := T.1 3 + 1) (fun i y hi hI ih => ?_) (fun y hI => ?_) 0 () (Nat.zero_le _) trivial
    · skip
      have hb := bsV_le (cn := cnB T l) (N := 1800000000) i (fun j hj => hva j (by omega))
      have hvi := hva i (by omega)
      refine aw rfl rfl ?_
      refine aw rfl rfl ?_
      refine aw_getfE rfl cg_105 rfl (congrArg Value.ref hr4) ?_
      refine aw_getf rfl (sa hp).1 rfl ?_
      refine aw_igtn rfl (fun c62 => by omega) (fun c62 => ?_)
      refine aw rfl rfl ?_
      refine aw rfl rfl ?_
      refine aw rfl rfl ?_
      refine aw rfl rfl ?_
      refine aw rfl rfl ?_
      refine aw_cv (d1 := 2) (L1 := 45) rfl rfl cg_105 rfl rfl (by decide) (by decide) (Nat.le_of_ble_eq_true rfl) (c_X0_chanceBy hX0 hc hR hl hh hw (by omega) (fun hcn => ?_) (fun hcn => ?_))
      · refine aw rfl rfl ?_
        first | rw [n_max (by omega) (by omega), ← bsV_yes hcn] | rw [n_maxm (by omega), ← bs_skip hcn]
        refine aw_ist (ls' := [_, _, _, _, _]) rfl rfl ?_
        refine aw_incn (c := 1) (ls' := [_, _, _, _, _]) rfl rfl (by decide) rfl ?_
        refine aw rfl rfl ?_
        exact ih () trivial
      · refine aw rfl rfl ?_
        first | rw [n_max (by omega) (by omega), ← bsV_yes hcn] | rw [n_maxm (by omega), ← bs_skip hcn]
        refine aw_ist (ls' := [_, _, _, _, _]) rfl rfl ?_
        refine aw_incn (c := 1) (ls' := [_, _, _, _, _]) rfl rfl (by decide) rfl ?_
        refine aw rfl rfl ?_
        exact ih () trivial
    · skip
      refine aw rfl rfl ?_
      refine aw rfl rfl ?_
      refine aw_getfE rfl cg_105 rfl (congrArg Value.ref hr4) ?_
      refine aw_getf rfl (sa hp).1 rfl ?_
      refine aw_igtn rfl (fun c62 => ?_) (fun c62 => by omega)
      refine aw rfl rfl ?_
      exact aw_iret rfl rfl (by rw [act_bsV]; exact q)
theorem c_X0_chanceAtRest {Q : Option Value → am_H → Prop} (hX : CX p T LW T0 T1 g rf) {gq : Option Nat} (hs : ∀ s, gq = some s → s < 32) (hr24 : K.1 24 = rI gq) {l n : Nat} (hl : l < 96) (hn : n ≤ 10) (q : Q (some (.int (nI (bif glB T gq l then 6 ^ n else 0)))) (ch g T0 u0 T1 u1 K rf)) : AC am_P 2 42 9 [.ref 105, .int (nI l), .int (nI n)] (ch g T0 u0 T1 u1 K rf) Q := by
  refine AC.of (ls := [_, _, _, _]) rfl ?_
  obtain ⟨hp, hG, hW, hU, h8t, hr0, hr3, hr4, hr5, hsix, hf6, hf7, hf67⟩ := hX
  have hs6 : am_six (ch g T0 u0 T1 u1 K rf) := (cg_low (by decide)).trans hsix
  cases gq with
  | none =>
    refine aw rfl rfl ?_
    refine aw_getfE rfl cg_105 rfl (congrArg Value.int hr24) ?_
    refine aw_c (v := -1) rfl (by decide) ?_
    refine aw_ine rfl (fun c => absurd (by decide) c) (fun _ => ?_)
    refine aw rfl rfl ?_
    refine aw_getfE rfl cg_105 rfl (congrArg Value.ref hr4) ?_
    refine aw rfl rfl ?_
    refine aw_cv (d1 := 1) (L1 := 21) rfl rfl (sa hp).1 rfl rfl (by decide) (by decide) (Nat.le_of_ble_eq_true rfl) (c_X7_isHomeLie (sa hp) hl (fun hz => ?_) (fun hz => ?_))
    · refine aw rfl rfl ?_
      refine aw_ist (ls' := [_, _, _, _]) rfl rfl ?_
      refine aw rfl rfl ?_
      refine aw_eq rfl (fun c => absurd c (by decide)) (fun _ => ?_)
      refine aw rfl rfl ?_
      refine aw_cs (d1 := 0) (L1 := 0) rfl rfl (by decide) (by decide) (Nat.le_of_ble_eq_true rfl) (c_X10_sixesOf hs6 hn ?_)
      refine aw rfl rfl ?_
      exact aw_iret rfl rfl (by rw [show glB T none l = true from decide_eq_true hz, cond_true] at q; exact q)
    · refine aw rfl rfl ?_
      refine aw_ist (ls' := [_, _, _, _]) rfl rfl ?_
      refine aw rfl rfl ?_
      refine aw_eq rfl (fun _ => ?_) (fun c => absurd (by decide) c)
      refine aw_c (v := nI 0) rfl (by decide) ?_
      exact aw_iret rfl rfl (by rw [show glB T none l = false from decide_eq_false hz, cond_false] at q; exact q)
  | some s =>
    have hs := hs s rfl
    refine aw rfl rfl ?_
    refine aw_getfE rfl cg_105 rfl (congrArg Value.int hr24) ?_
    refine aw_c (v := -1) rfl (by decide) ?_
    refine aw_inem rfl ?_
    refine aw rfl rfl ?_
    refine aw_c (v := nI 3) rfl (by decide) ?_
    refine aw_divn rfl (by omega) (by omega) (by omega) ?_
    refine aw rfl rfl ?_
    refine aw_getfE rfl cg_105 rfl (congrArg Value.int hr24) ?_
    refine aw_inen rfl (fun c26 => ?_) (fun c26 => ?_)
    · refine aw_c (v := nI 0) rfl (by decide) ?_
      refine aw_ist (ls' := [_, _, _, _]) rfl rfl ?_
      refine aw rfl rfl ?_
      refine aw_eq rfl (fun _ => ?_) (fun c => absurd (by decide) c)
      refine aw_c (v := nI 0) rfl (by decide) ?_
      exact aw_iret rfl rfl (by rw [show glB T (some s) l = false from decide_eq_false c26, cond_false] at q; exact q)
    · refine aw_c (v := nI 1) rfl (by decide) ?_
      refine aw rfl rfl ?_
      refine aw_ist (ls' := [_, _, _, _]) rfl rfl ?_
      refine aw rfl rfl ?_
      refine aw_eq rfl (fun c => absurd c (by decide)) (fun _ => ?_)
      refine aw rfl rfl ?_
      refine aw_cs (d1 := 0) (L1 := 0) rfl rfl (by decide) (by decide) (Nat.le_of_ble_eq_true rfl) (c_X10_sixesOf hs6 hn ?_)
      refine aw rfl rfl ?_
      exact aw_iret rfl rfl (by rw [show glB T (some s) l = true from decide_eq_true c26, cond_true] at q; exact q)
theorem c_X0_fillLayer {Q : Option Value → am_H → Prop} (hX : CX p T LW T0 T1 g rf) (hL : LLr T K no na lf) {r gq : Option Nat} (hr : ∀ j, r = some j → j < T.1 3) (hs : ∀ s, gq = some s → s < 32) (hr23 : K.1 23 = rI r) (hr24 : K.1 24 = rI gq) {left t : Nat} (hn : left ≤ 10) (hlt : 0 < left → FA T (K.2.1 (rf 7)) (Fc T LW r (glB T gq) (left - 1) (t + T.1 5)) ∧ RG T LW g rf (nI t)) (q : ∀ f, FA T f (Fc T LW r (glB T gq) left t) → Q none (ch g T0 u0 T1 u1 (K.1, va_up K.2.1 (rf 6) f, K.2.2) rf)) : AC am_P 4 97 4 [.ref 105, .int (nI left)] (ch g T0 u0 T1 u1 K rf) Q := by
  refine AC.of (ls := [_, _, _, _, _, _, _]) rfl ?_
  have hX0 := hX
  obtain ⟨hp, hG, hW, hU, h8t, hr0, hr3, hr4, hr5, hsix, hf6, hf7, hf67⟩ := hX
  have hG0 := hG
  obtain ⟨⟨g0, g0x⟩, ⟨g1, g1x⟩, ⟨g2, g2x⟩, ⟨g3, g3x⟩, g4, ⟨g5, g5x⟩, g6, gsq, goc, gwt, gsp, gfr⟩ := hG
  obtain ⟨l96, lno, l18, l19, lin, lop, lhm, linj, lall, lhome⟩ := hL
  have hml : (if nI 3 < nI (T.1 4 + 1) then nI 3 else nI (T.1 4 + 1)) = nI (T.1 4 + 1) := if_neg (nI_nlt (by omega) (by omega))
  refine aw rfl rfl ?_
  refine aw_getfE rfl cg_105 rfl (congrArg Value.ref hr4) ?_
  refine aw_getf rfl (sa hp).1 rfl ?_
  refine aw_c (v := nI 1) rfl (by decide) ?_
  refine aw_addn rfl ?_
  refine aw_c (v := nI 3) rfl (by decide) ?_
  refine aw rfl rfl ?_
  rw [hml]
  refine aw_ist (ls' := [_, _, _, _, _, _, _]) rfl rfl ?_
  refine aw_c (v := nI 0) rfl (by decide) ?_
  refine aw_ist (ls' := [_, _, _, _, _, _, _]) rfl rfl ?_
  refine (show AW am_P 4 97 4 16 [some (.ref 105), some (.int (nI left)), some (.int (nI (T.1 4 + 1))), some (.int (nI 0)), none, none, none] [] (ch g T0 u0 T1 u1 (K.1, va_up K.2.1 (rf 6) (K.2.1 (rf 6)), K.2.2) rf) Q → _ from fun z => by rw [va_self0] at z; exact z) ?_
  refine aw_loop (α := (Nat → Int32) × Option Value × Option Value × Option Value) (ll := fun i y => [some (.ref 105), some (.int (nI left)), some (.int (nI (T.1 4 + 1))), some (.int (nI i)), y.2.1, y.2.2.1, y.2.2.2]) (hh := fun i y => (ch g T0 u0 T1 u1 (K.1, va_up K.2.1 (rf 6) y.1, K.2.2) rf)) (I := fun i y => (∀ i', i' < i → ∀ w, w ≤ T.1 4 + 1 → y.1 (lf i' * 4 + w) = nI (Fc T LW r (glB T gq) left t (lf i') w))) (N := na) (fun i y hi hI ihi => ?_) (fun y hI => ?_) 0 (K.2.1 (rf 6), none, none, none) (Nat.zero_le _) (fun z hz => absurd hz (Nat.not_lt_zero _))
  · skip
    obtain ⟨y, l4, l5, l6⟩ := y
    dsimp only at hI ⊢
    have hlie := (lin i hi).2
    have hl96 := hlie.1
    refine aw rfl rfl ?_
    refine aw rfl rfl ?_
    refine aw_getf rfl cg_105 rfl ?_
    refine aw_getfE rfl cg_100 rfl (congrArg Value.int l19) ?_
    refine aw_igen rfl (fun c24 => by omega) (fun c24 => ?_)
    refine aw rfl rfl ?_
    refine aw_c (v := nI 96) rfl (by decide) ?_
    refine aw_igen rfl (fun c30 => by omega) (fun c30 => ?_)
    refine aw rfl rfl ?_
    refine aw_getf rfl cg_105 rfl ?_
    refine aw_getf rfl cg_100 rfl ?_
    refine aw rfl rfl ?_
    refine aw_ialdE rfl cg_104 rfl (by omega) (by decide) ((congrFun (show va_up K.2.1 (rf 6) y 104 = K.2.1 104 from vu_ot (by rcases hf6 with h | h <;> omega)) i).trans (lin i hi).1) ?_
    refine aw_ist (ls' := [_, _, _, _, _, _, _]) rfl rfl ?_
    refine aw rfl rfl ?_
    refine aw rfl rfl ?_
    refine aw_getf rfl cg_105 rfl ?_
    refine aw_getfE rfl cg_100 rfl (congrArg Value.int l18) ?_
    refine aw_igen rfl (fun c52 => ?_) (fun c52 => ?_)
    · refine aw_c (v := nI 0) rfl (by decide) ?_
      refine aw_ist (ls' := [_, _, _, _, _, _, _]) rfl rfl ?_
      refine aw_c (v := nI 0) rfl (by decide) ?_
      refine aw_ist (ls' := [_, _, _, _, _, _, _]) rfl rfl ?_
      have hop : no ≤ i := c52
      have hval : ∀ w, Fc T LW r (glB T gq) left t (lf i) w = bif glB T gq (lf i) then 6 ^ left else 0 := fun w => Fc_home (lhm i hop hi)
      refine aw_loop (α := Nat → Int32) (ll := fun w y => [some (.ref 105), some (.int (nI left)), some (.int (nI (T.1 4 + 1))), some (.int (nI i)), some (.int (nI (lf i))), some (.int (nI 0)), some (.int (nI w))]) (hh := fun w y => (ch g T0 u0 T1 u1 (K.1, va_up K.2.1 (rf 6) y, K.2.2) rf)) (I := fun w y => (∀ i', i' < i → ∀ w, w ≤ T.1 4 + 1 → y (lf i' * 4 + w) = nI (Fc T LW r (glB T gq) left t (lf i') w)) ∧ (∀ w', w' < w → y (lf i * 4 + w') = nI (Fc T LW r (glB T gq) left t (lf i) w'))) (N := T.1 4 + 1 + 1) (fun w y hw hIw ihw => ?_) (fun y hIw => ?_) 0 y (Nat.zero_le _) ⟨hI, fun w' h => absurd h (Nat.not_lt_zero _)⟩
      · skip
        have hwl : w ≤ T.1 4 + 1 := by omega
        refine aw rfl rfl ?_
        refine aw rfl rfl ?_
        refine aw_igtn rfl (fun c72 => by omega) (fun c72 => ?_)
        refine aw rfl rfl ?_
        refine aw_getfE rfl cg_105 rfl (congrArg Value.ref rfl) ?_
        refine aw rfl rfl ?_
        refine aw_c (v := nI 4) rfl (by decide) ?_
        refine aw_muln rfl ?_
        refine aw rfl rfl ?_
        refine aw_addn rfl ?_
        refine aw rfl rfl ?_
        refine aw_eq rfl (fun _ => ?_) (fun c => absurd (by decide) c)
        refine aw rfl rfl ?_
        refine aw rfl rfl ?_
        refine aw rfl rfl ?_
        refine aw_cv (d1 := 2) (L1 := 42) rfl rfl cg_105 rfl rfl (by decide) (by decide) (Nat.le_of_ble_eq_true rfl) (c_X0_chanceAtRest (K := (K.1, va_up K.2.1 (rf 6) y, K.2.2)) hX0 hs hr24 hl96 hn ?_)
        refine aw_iastV (q := rf 6) (k := lf i * 4 + w) rfl (cg_fq hf6) rfl (by omega) (by decide) (by rcases hf6 with h | h <;> omega) (cu_fq hf6) ?_
        refine aw_incn (c := 1) (ls' := [_, _, _, _, _, _, _]) rfl rfl (by decide) rfl ?_
        refine aw rfl rfl ?_
        rw [show va_up (va_up K.2.1 (rf 6) y) (rf 6) (upd (va_up K.2.1 (rf 6) y (rf 6)) (lf i * 4 + w) (nI (bif glB T gq (lf i) then 6 ^ left else 0))) = va_up K.2.1 (rf 6) (upd y (lf i * 4 + w) (nI (bif glB T gq (lf i) then 6 ^ left else 0))) from va_twice (h := fun f9 => upd f9 (lf i * 4 + w) (nI (bif glB T gq (lf i) then 6 ^ left else 0)))]
        refine ihw _ ⟨fun z h1 w9 h2 => ?_, fun w9 h2 => ?_⟩
        · by_cases e : lf z * 4 + w9 = lf i * 4 + w
          · have e1 : lf z = lf i := by omega
            have e2 : w9 = w := by omega
            rw [e, e1, e2, upd_at, hval w]
          · exact (upd_ne e).trans (hIw.1 z h1 w9 h2)
        · by_cases e : w9 = w
          · subst e; rw [upd_at, hval w9]
          · exact (upd_ne (by omega)).trans (hIw.2 w9 (by omega))
      · skip
        refine aw rfl rfl ?_
        refine aw rfl rfl ?_
        refine aw_igtn rfl (fun c72 => ?_) (fun c72 => by omega)
        refine aw_incn (c := 1) (ls' := [_, _, _, _, _, _, _]) rfl rfl (by decide) rfl ?_
        refine aw rfl rfl ?_
        exact ihi (y, some (.int (nI (lf i))), some (.int (nI 0)), some (.int (nI (T.1 4 + 1 + 1)))) (fun z h1 w9 h2 => by
          by_cases e : z = i
          · subst e; exact hIw.2 w9 (by omega)
          · exact hIw.1 z (by omega) w9 h2)
    · refine aw rfl rfl ?_
      refine aw_len rfl (fun c56 => ?_) (fun c56 => ?_)
      · refine aw_c (v := nI 0) rfl (by decide) ?_
        refine aw_ist (ls' := [_, _, _, _, _, _, _]) rfl rfl ?_
        refine aw_c (v := nI 0) rfl (by decide) ?_
        refine aw_ist (ls' := [_, _, _, _, _, _, _]) rfl rfl ?_
        have hl0 : left = 0 := c56
        have hval : ∀ w, Fc T LW r (glB T gq) left t (lf i) w = bif glB T gq (lf i) then 6 ^ left else 0 := fun w => by rw [hl0]; rfl
        refine aw_loop (α := Nat → Int32) (ll := fun w y => [some (.ref 105), some (.int (nI left)), some (.int (nI (T.1 4 + 1))), some (.int (nI i)), some (.int (nI (lf i))), some (.int (nI 0)), some (.int (nI w))]) (hh := fun w y => (ch g T0 u0 T1 u1 (K.1, va_up K.2.1 (rf 6) y, K.2.2) rf)) (I := fun w y => (∀ i', i' < i → ∀ w, w ≤ T.1 4 + 1 → y (lf i' * 4 + w) = nI (Fc T LW r (glB T gq) left t (lf i') w)) ∧ (∀ w', w' < w → y (lf i * 4 + w') = nI (Fc T LW r (glB T gq) left t (lf i) w'))) (N := T.1 4 + 1 + 1) (fun w y hw hIw ihw => ?_) (fun y hIw => ?_) 0 y (Nat.zero_le _) ⟨hI, fun w' h => absurd h (Nat.not_lt_zero _)⟩
        · skip
          have hwl : w ≤ T.1 4 + 1 := by omega
          refine aw rfl rfl ?_
          refine aw rfl rfl ?_
          refine aw_igtn rfl (fun c72 => by omega) (fun c72 => ?_)
          refine aw rfl rfl ?_
          refine aw_getfE rfl cg_105 rfl (congrArg Value.ref rfl) ?_
          refine aw rfl rfl ?_
          refine aw_c (v := nI 4) rfl (by decide) ?_
          refine aw_muln rfl ?_
          refine aw rfl rfl ?_
          refine aw_addn rfl ?_
          refine aw rfl rfl ?_
          refine aw_eq rfl (fun _ => ?_) (fun c => absurd (by decide) c)
          refine aw rfl rfl ?_
          refine aw rfl rfl ?_
          refine aw rfl rfl ?_
          refine aw_cv (d1 := 2) (L1 := 42) rfl rfl cg_105 rfl rfl (by decide) (by decide) (Nat.le_of_ble_eq_true rfl) (c_X0_chanceAtRest (K := (K.1, va_up K.2.1 (rf 6) y, K.2.2)) hX0 hs hr24 hl96 hn ?_)
          refine aw_iastV (q := rf 6) (k := lf i * 4 + w) rfl (cg_fq hf6) rfl (by omega) (by decide) (by rcases hf6 with h | h <;> omega) (cu_fq hf6) ?_
          refine aw_incn (c := 1) (ls' := [_, _, _, _, _, _, _]) rfl rfl (by decide) rfl ?_
          refine aw rfl rfl ?_
          rw [show va_up (va_up K.2.1 (rf 6) y) (rf 6) (upd (va_up K.2.1 (rf 6) y (rf 6)) (lf i * 4 + w) (nI (bif glB T gq (lf i) then 6 ^ left else 0))) = va_up K.2.1 (rf 6) (upd y (lf i * 4 + w) (nI (bif glB T gq (lf i) then 6 ^ left else 0))) from va_twice (h := fun f9 => upd f9 (lf i * 4 + w) (nI (bif glB T gq (lf i) then 6 ^ left else 0)))]
          refine ihw _ ⟨fun z h1 w9 h2 => ?_, fun w9 h2 => ?_⟩
          · by_cases e : lf z * 4 + w9 = lf i * 4 + w
            · have e1 : lf z = lf i := by omega
              have e2 : w9 = w := by omega
              rw [e, e1, e2, upd_at, hval w]
            · exact (upd_ne e).trans (hIw.1 z h1 w9 h2)
          · by_cases e : w9 = w
            · subst e; rw [upd_at, hval w9]
            · exact (upd_ne (by omega)).trans (hIw.2 w9 (by omega))
        · skip
          refine aw rfl rfl ?_
          refine aw rfl rfl ?_
          refine aw_igtn rfl (fun c72 => ?_) (fun c72 => by omega)
          refine aw_incn (c := 1) (ls' := [_, _, _, _, _, _, _]) rfl rfl (by decide) rfl ?_
          refine aw rfl rfl ?_
          exact ihi (y, some (.int (nI (lf i))), some (.int (nI 0)), some (.int (nI (T.1 4 + 1 + 1)))) (fun z h1 w9 h2 => by
            by_cases e : z = i
            · subst e; exact hIw.2 w9 (by omega)
            · exact hIw.1 z (by omega) w9 h2)
      · refine aw_c (v := nI 1) rfl (by decide) ?_
        refine aw rfl rfl ?_
        refine aw_ist (ls' := [_, _, _, _, _, _, _]) rfl rfl ?_
        refine aw_c (v := nI 0) rfl (by decide) ?_
        refine aw_ist (ls' := [_, _, _, _, _, _, _]) rfl rfl ?_
        have hl0 : 0 < left := c56
        have hho := lop i (Nat.not_le.mp c52)
        have hval : ∀ w, Fc T LW r (glB T gq) left t (lf i) w = va T LW (Fc T LW r (glB T gq) (left - 1) (t + T.1 5)) (lf i) w (act T LW (Fc T LW r (glB T gq) (left - 1) (t + T.1 5)) r (lf i) w (nI t)) (nI t) := fun w => by
          have h9 := Fc_away (LW := LW) (r := r) (gl := glB T gq) (n := left - 1) (t := t) (w := w) (show ¬ hm T (lf i) = true by rw [hho]; decide)
          rw [show left - 1 + 1 = left by omega] at h9
          exact h9
        have hFb : ∀ l w, Fc T LW r (glB T gq) (left - 1) (t + T.1 5) l w < 300000000 := fun l w => Nat.lt_of_le_of_lt (Fc_le hG0 hr _ _ l w) (Nat.lt_trans (p6_le (by omega)) (by decide))
        refine aw_loop (α := Nat → Int32) (ll := fun w y => [some (.ref 105), some (.int (nI left)), some (.int (nI (T.1 4 + 1))), some (.int (nI i)), some (.int (nI (lf i))), some (.int (nI 1)), some (.int (nI w))]) (hh := fun w y => (ch g T0 u0 T1 u1 (K.1, va_up K.2.1 (rf 6) y, K.2.2) rf)) (I := fun w y => (∀ i', i' < i → ∀ w, w ≤ T.1 4 + 1 → y (lf i' * 4 + w) = nI (Fc T LW r (glB T gq) left t (lf i') w)) ∧ (∀ w', w' < w → y (lf i * 4 + w') = nI (Fc T LW r (glB T gq) left t (lf i) w'))) (N := T.1 4 + 1 + 1) (fun w y hw hIw ihw => ?_) (fun y hIw => ?_) 0 y (Nat.zero_le _) ⟨hI, fun w' h => absurd h (Nat.not_lt_zero _)⟩
        · skip
          have hwl : w ≤ T.1 4 + 1 := by omega
          have hcl : FA T (va_up K.2.1 (rf 6) y (rf 7)) (Fc T LW r (glB T gq) (left - 1) (t + T.1 5)) := by rw [vu_ot (fun z => hf67 z.symm)]; exact (hlt hl0).1
          refine aw rfl rfl ?_
          refine aw rfl rfl ?_
          refine aw_igtn rfl (fun c72 => by omega) (fun c72 => ?_)
          refine aw rfl rfl ?_
          refine aw_getfE rfl cg_105 rfl (congrArg Value.ref rfl) ?_
          refine aw rfl rfl ?_
          refine aw_c (v := nI 4) rfl (by decide) ?_
          refine aw_muln rfl ?_
          refine aw rfl rfl ?_
          refine aw_addn rfl ?_
          refine aw rfl rfl ?_
          refine aw_eq rfl (fun c => absurd c (by decide)) (fun _ => ?_)
          refine aw rfl rfl ?_
          refine aw rfl rfl ?_
          refine aw rfl rfl ?_
          refine aw_cv (d1 := 3) (L1 := 73) rfl rfl cg_105 rfl rfl (by decide) (by decide) (Nat.le_of_ble_eq_true rfl) (c_X0_chanceThere (K := (K.1, va_up K.2.1 (rf 6) y, K.2.2)) hX0 hr hr23 (F := Fc T LW r (glB T gq) (left - 1) (t + T.1 5)) (x := nI t) hcl hFb (hlt hl0).2 hlie hho hwl ?_)
          refine aw rfl rfl ?_
          refine aw_iastV (q := rf 6) (k := lf i * 4 + w) rfl (cg_fq hf6) rfl (by omega) (by decide) (by rcases hf6 with h | h <;> omega) (cu_fq hf6) ?_
          refine aw_incn (c := 1) (ls' := [_, _, _, _, _, _, _]) rfl rfl (by decide) rfl ?_
          refine aw rfl rfl ?_
          rw [show va_up (va_up K.2.1 (rf 6) y) (rf 6) (upd (va_up K.2.1 (rf 6) y (rf 6)) (lf i * 4 + w) (nI (va T LW (Fc T LW r (glB T gq) (left - 1) (t + T.1 5)) (lf i) w (act T LW (Fc T LW r (glB T gq) (left - 1) (t + T.1 5)) r (lf i) w (nI t)) (nI t)))) = va_up K.2.1 (rf 6) (upd y (lf i * 4 + w) (nI (va T LW (Fc T LW r (glB T gq) (left - 1) (t + T.1 5)) (lf i) w (act T LW (Fc T LW r (glB T gq) (left - 1) (t + T.1 5)) r (lf i) w (nI t)) (nI t)))) from va_twice (h := fun f9 => upd f9 (lf i * 4 + w) (nI (va T LW (Fc T LW r (glB T gq) (left - 1) (t + T.1 5)) (lf i) w (act T LW (Fc T LW r (glB T gq) (left - 1) (t + T.1 5)) r (lf i) w (nI t)) (nI t))))]
          refine ihw _ ⟨fun z h1 w9 h2 => ?_, fun w9 h2 => ?_⟩
          · by_cases e : lf z * 4 + w9 = lf i * 4 + w
            · have e1 : lf z = lf i := by omega
              have e2 : w9 = w := by omega
              rw [e, e1, e2, upd_at, hval w]
            · exact (upd_ne e).trans (hIw.1 z h1 w9 h2)
          · by_cases e : w9 = w
            · subst e; rw [upd_at, hval w9]
            · exact (upd_ne (by omega)).trans (hIw.2 w9 (by omega))
        · skip
          refine aw rfl rfl ?_
          refine aw rfl rfl ?_
          refine aw_igtn rfl (fun c72 => ?_) (fun c72 => by omega)
          refine aw_incn (c := 1) (ls' := [_, _, _, _, _, _, _]) rfl rfl (by decide) rfl ?_
          refine aw rfl rfl ?_
          exact ihi (y, some (.int (nI (lf i))), some (.int (nI 1)), some (.int (nI (T.1 4 + 1 + 1)))) (fun z h1 w9 h2 => by
            by_cases e : z = i
            · subst e; exact hIw.2 w9 (by omega)
            · exact hIw.1 z (by omega) w9 h2)
  · skip
    obtain ⟨y, l4, l5, l6⟩ := y
    dsimp only at hI ⊢
    refine aw rfl rfl ?_
    refine aw rfl rfl ?_
    refine aw_getf rfl cg_105 rfl ?_
    refine aw_getfE rfl cg_100 rfl (congrArg Value.int l19) ?_
    refine aw_igen rfl (fun c24 => ?_) (fun c24 => by omega)
    exact aw_vret rfl rfl (q y (fun l w h1 h2 => by
      cases hh : hm T l with
      | false => obtain ⟨i, h3, rfl⟩ := lall l h1 hh; exact hI i (by omega) w h2
      | true => obtain ⟨i, h3, h4, rfl⟩ := lhome l h1 hh; exact hI i h4 w h2))
end C1
