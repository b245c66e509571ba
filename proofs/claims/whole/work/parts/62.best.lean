def bsK (n : Nat) : Option (Nat × Nat) → Nat
  | none => n
  | some p => p.1
/-! ===== the class: a look ahead (2), the best action ===== -/
section C1
variable {g : am_H} {T0 T1 T : Sd} {u0 u1 : Ua} {K : Ck} {rf : Nat → Nat} {p : Nat} {LW : LWt} {S : Nat → Nat} {u td nt cc : Nat} {P Z : Nat → Nat → Nat} {TD : Nat → Nat} {hd : Nat → Bool} {tp : Nat → Int32} {pc : Int32}
variable {no na : Nat} {lf : Nat → Nat}
theorem c_X0_look {Q : Option Value → am_H → Prop} (hX : CX p T LW T0 T1 g rf) (hL : LLr T K no na lf) (hT : TB T LW g K) (hO : FO T LW K rf) {st n : Nat} {r gq : Option Nat} (hr : ∀ j, r = some j → j < T.1 3) (hs : ∀ s, gq = some s → s < 32) (hst : st ≤ 1500) (hn : n ≤ 10) (q : (∀ g' u0 u1 K' rf', GX g g' K.2.2.2.2 K'.2.2.2.2 → CX p T LW T0 T1 g' rf' → LLr T K' no na lf → TB T LW g' K' → FO T LW K' rf' → KLk K K' → FA T (K'.2.1 (rf' 6)) (Fc T LW r (glB T gq) n (st * T.1 5)) → (1 ≤ n → FA T (K'.2.1 (rf' 7)) (Fc T LW r (glB T gq) (n - 1) (st * T.1 5 + T.1 5))) → (∀ i, i < 6 → rf' i = rf i) → Q none (ch g' T0 u0 T1 u1 K' rf'))) : AC am_P 5 129 2 [.ref 105, .int (nI st), .int (nI n), .int (rI r), .int (rI gq)] (ch g T0 u0 T1 u1 K rf) Q := by
  refine AC.of (ls := [_, _, _, _, _, _, _]) rfl ?_
  have hX0 := hX
  obtain ⟨hp, hG, hW, hU, h8t, hr0, hr3, hr4, hr5, hsix, hf6, hf7, hf67⟩ := hX
  have hG0 := hG
  obtain ⟨⟨g0, g0x⟩, ⟨g1, g1x⟩, ⟨g2, g2x⟩, ⟨g3, g3x⟩, g4, ⟨g5, g5x⟩, g6, gsq, goc, gwt, gsp, gfr⟩ := hG
  have hct : (if T.1 8 = 0 then 0 else st) ≤ 1500 := by split <;> omega
  have hO0 := hO
  rcases hO with hz | ⟨hz, st9, n9, r9, gq9, w1, w2, w3, w4, w5, w6, w7, w8, w9, w10⟩
  · skip
    refine aw rfl rfl ?_
    refine aw_getf rfl cg_105 rfl ?_
    refine aw rfl rfl ?_
    refine aw_cv (d1 := 1) (L1 := 20) rfl rfl cg_100 rfl rfl (by decide) (by decide) (Nat.le_of_ble_eq_true rfl) (c_X8_stepThatCounts hp hr3 h8t ?_)
    refine aw_ist (ls' := [_, _, _, _, _, _, _]) rfl rfl ?_
    refine aw rfl rfl ?_
    refine aw_getfE rfl cg_105 rfl (congrArg Value.int hz) ?_
    refine aw_eq rfl (fun _ => ?_) (fun c => absurd (by decide) c)
    exact l_look hX0 hL hT hr hs hst hn rfl q
  · skip
    refine aw rfl rfl ?_
    refine aw_getf rfl cg_105 rfl ?_
    refine aw rfl rfl ?_
    refine aw_cv (d1 := 1) (L1 := 20) rfl rfl cg_100 rfl rfl (by decide) (by decide) (Nat.le_of_ble_eq_true rfl) (c_X8_stepThatCounts hp hr3 h8t ?_)
    refine aw_ist (ls' := [_, _, _, _, _, _, _]) rfl rfl ?_
    refine aw rfl rfl ?_
    refine aw_getfE rfl cg_105 rfl (congrArg Value.int hz) ?_
    refine aw_eq rfl (fun c => absurd c (by decide)) (fun _ => ?_)
    refine aw rfl rfl ?_
    refine aw_getfE rfl cg_105 rfl (congrArg Value.int w5) ?_
    refine aw rfl rfl ?_
    refine aw_inen rfl (fun c23 => ?_) (fun c23 => ?_)
    · exact l_look hX0 hL hT hr hs hst hn rfl q
    · refine aw rfl rfl ?_
      refine aw_getfE rfl cg_105 rfl (congrArg Value.int w6) ?_
      refine aw rfl rfl ?_
      refine aw_inen rfl (fun c31 => ?_) (fun c31 => ?_)
      · exact l_look hX0 hL hT hr hs hst hn rfl q
      · refine aw rfl rfl ?_
        refine aw_getfE rfl cg_105 rfl (congrArg Value.int w7) ?_
        refine aw rfl rfl ?_
        refine aw_ine rfl (fun c39 => ?_) (fun c39 => ?_)
        · exact l_look hX0 hL hT hr hs hst hn rfl q
        · refine aw rfl rfl ?_
          refine aw_getfE rfl cg_105 rfl (congrArg Value.int w8) ?_
          refine aw rfl rfl ?_
          refine aw_ine rfl (fun c48 => ?_) (fun c48 => ?_)
          · exact l_look hX0 hL hT hr hs hst hn rfl q
          · exact aw_vret rfl rfl (by
      have e1 : r9 = r := rI_inj (fun j hj => by have := w3 j hj; omega) (fun j hj => by have := hr j hj; omega) c39
      have e2 : gq9 = gq := rI_inj (fun j hj => by have := w4 j hj; omega) (fun j hj => by have := hs j hj; omega) c48
      subst e1 e2 c31
      have hst9 : ∀ m d, Fc T LW r9 (glB T gq9) m (st9 * T.1 5 + d) = Fc T LW r9 (glB T gq9) m (st * T.1 5 + d) := fun m d => by
        by_cases e : T.1 8 = 0
        · exact Fc_ut hU e m _ _
        · rw [c23, if_neg e]
      have h0 := hst9 n9 0
      rw [Nat.add_zero, Nat.add_zero] at h0
      rw [h0] at w9
      rw [hst9] at w10
      exact q g u0 u1 K rf GX.rf hX0 hL hT hO0 KLk.rf w9 w10 (fun _ _ => rfl))
theorem c_X0_bestAction {Q : Option Value → am_H → Prop} (hX : CX p T LW T0 T1 g rf) (hL : LLr T K no na lf) (hT : TB T LW g K) {F : Nat → Nat → Nat} (hc : FA T (K.2.1 (rf 7)) F) (hF : ∀ l w, F l w < 300000000) {st l w : Nat} (hst : st ≤ 1500) (hl : lieOK T l) (hh : hm T l = false) (hw : w ≤ T.1 4 + 1) (q : ∀ g' u0 u1 K' rf', GX g g' K.2.2.2.2 K'.2.2.2.2 → CX p T LW T0 T1 g' rf' → TB T LW g' K' → KT K K' → (∀ i, i < 8 → rf' i = rf i) → Q (some (.int (bs1 (bs (fun a => va T LW F l w a (nI (st * T.1 5))) (cnB T l) (T.1 3 + 1))))) (ch g' T0 u0 T1 u1 K' rf')) : AC am_P 5 129 11 [.ref 105, .int (nI st), .int (nI l), .int (nI w)] (ch g T0 u0 T1 u1 K rf) Q := by
  refine AC.of (ls := [_, _, _, _, _, _, _, _]) rfl ?_
  have hX0 := hX
  obtain ⟨hp, hG, hW, hU, h8t, hr0, hr3, hr4, hr5, hsix, hf6, hf7, hf67⟩ := hX
  have hG0 := hG
  obtain ⟨⟨g0, g0x⟩, ⟨g1, g1x⟩, ⟨g2, g2x⟩, ⟨g3, g3x⟩, g4, ⟨g5, g5x⟩, g6, gsq, goc, gwt, gsp, gfr⟩ := hG
  have hva : ∀ a, a ≤ T.1 3 → va T LW F l w a (nI (st * T.1 5)) < 2147483648 := fun a ha => by have := va_le (LW := LW) (l := l) (w := w) (x := nI (st * T.1 5)) hG0 (fun l w => Nat.le_of_lt (hF l w)) ha; omega
  refine aw rfl rfl ?_
  refine aw_getf rfl cg_105 rfl ?_
  refine aw rfl rfl ?_
  refine aw_cv (d1 := 4) (L1 := 100) rfl rfl cg_100 rfl rfl (by decide) (by decide) (Nat.le_of_ble_eq_true rfl) (c_X8_turnTo (T := T) (LW := LW) (p := p) hp hr3 hG0 hW hU h8t hL hT (w := st) (by omega) (fun g3 v0 v1 K3 q8 f8 t1 t2 t3 t4 t5 t6 => ?_))
  have hX3 : CX p T LW T0 T1 g3 (va_up rf 8 q8) := (hX0.to t1 (fun _ _ => rfl)).sw
  have hc3 : FA T (K3.2.1 (va_up rf 8 q8 7)) F := by show FA T (K3.2.1 (rf 7)) F; rw [t2.2.1 _ (by rcases hf7 with h | h <;> omega)]; exact hc
  have hR3 : RG T LW g3 (va_up rf 8 q8) (nI (st * T.1 5)) := ⟨t4, f8, t5, t6⟩
  refine aw_c (v := -1) rfl (by decide) ?_
  refine aw_ist (ls' := [_, _, _, _, _, _, _, _]) rfl rfl ?_
  refine aw rfl rfl ?_
  refine aw_getfE rfl cg_105 rfl (congrArg Value.ref (show va_up rf 8 q8 4 = p from hr4)) ?_
  refine aw_getf rfl (sa hp).1 rfl ?_
  refine aw_ist (ls' := [_, _, _, _, _, _, _, _]) rfl rfl ?_
  refine aw_c (v := nI 0) rfl (by decide) ?_
  refine aw_ist (ls' := [_, _, _, _, _, _, _, _]) rfl rfl ?_
  refine aw_loop (α := Option Value) (ll := fun i y => [some (.ref 105), some (.int (nI st)), some (.int (nI l)), some (.int (nI w)), some (.int (bs2 (bs (fun a => va T LW F l w a (nI (st * T.1 5))) (cnB T l) i))), some (.int (nI (bsK (T.1 3) (bs (fun a => va T LW F l w a (nI (st * T.1 5))) (cnB T l) i)))), some (.int (nI i)), y]) (hh := fun i y => ch g3 T0 v0 T1 v1 K3 (va_up rf 8 q8)) (I := fun i y => True) (N := T.1 3 + 1) (fun i y hi hI ih => ?_) (fun y hI => ?_) 0 none (Nat.zero_le _) trivial
  · skip
    have hvi := hva i (by omega)
    cases eb : (bs (fun a => va T LW F l w a (nI (st * T.1 5))) (cnB T l) i) with
    | none =>
      show AW am_P _ _ _ _ [_, _, _, _, some (.int (-1)), some (.int (nI (T.1 3))), _, _] _ _ _
      refine aw rfl rfl ?_
      refine aw rfl rfl ?_
      refine aw_getfE rfl cg_105 rfl (congrArg Value.ref (show va_up rf 8 q8 4 = p from hr4)) ?_
      refine aw_getf rfl (sa hp).1 rfl ?_
      refine aw_igtn rfl (fun c32 => by omega) (fun c32 => ?_)
      refine aw rfl rfl ?_
      refine aw rfl rfl ?_
      refine aw rfl rfl ?_
      refine aw rfl rfl ?_
      refine aw_cv (d1 := 2) (L1 := 45) rfl rfl cg_105 rfl rfl (by decide) (by decide) (Nat.le_of_ble_eq_true rfl) (c_X0_chanceBy hX3 hc3 hR3 hl hh hw (by omega) (fun hcn => ?_) (fun hcn => ?_))
      · refine aw_ist (ls' := [_, _, _, _, _, _, _, _]) rfl rfl ?_
        refine aw rfl rfl ?_
        refine aw rfl rfl ?_
        refine aw_ile rfl (fun c49 => absurd (Int32.lt_of_lt_of_le (by decide : (-1 : Int32) < nI 0) (nI_le (Nat.zero_le _) hvi)) (Int32.not_lt.mpr c49)) (fun c49 => ?_)
        refine aw rfl rfl ?_
        refine aw_ist (ls' := [_, _, _, _, _, _, _, _]) rfl rfl ?_
        refine aw rfl rfl ?_
        refine aw_ist (ls' := [_, _, _, _, _, _, _, _]) rfl rfl ?_
        refine aw_incn (c := 1) (ls' := [_, _, _, _, _, _, _, _]) rfl rfl (by decide) rfl ?_
        refine aw rfl rfl ?_
        have e5 : (bs (fun a => va T LW F l w a (nI (st * T.1 5))) (cnB T l) (i + 1)) = some (i, va T LW F l w i (nI (st * T.1 5))) := by rw [bs_none eb, hcn]; rfl
        have ih := fun y => ih y trivial
        rw [e5] at ih
        exact ih _
      · refine aw_ist (ls' := [_, _, _, _, _, _, _, _]) rfl rfl ?_
        refine aw rfl rfl ?_
        refine aw rfl rfl ?_
        refine aw_ile rfl (fun c49 => ?_) (fun c49 => absurd (Int32.le_refl _) c49)
        refine aw_incn (c := 1) (ls' := [_, _, _, _, _, _, _, _]) rfl rfl (by decide) rfl ?_
        refine aw rfl rfl ?_
        have e5 : (bs (fun a => va T LW F l w a (nI (st * T.1 5))) (cnB T l) (i + 1)) = none := by rw [bs_skip hcn]; exact eb
        have ih := fun y => ih y trivial
        rw [e5] at ih
        exact ih _
    | some p9 =>
      have hpl := bs_lt _ _ _ _ eb
      have hp2 : p9.2 < 2147483648 := by rw [hpl.2.1]; exact hva _ (by omega)
      show AW am_P _ _ _ _ [_, _, _, _, some (.int (nI p9.2)), some (.int (nI p9.1)), _, _] _ _ _
      refine aw rfl rfl ?_
      refine aw rfl rfl ?_
      refine aw_getfE rfl cg_105 rfl (congrArg Value.ref (show va_up rf 8 q8 4 = p from hr4)) ?_
      refine aw_getf rfl (sa hp).1 rfl ?_
      refine aw_igtn rfl (fun c32 => by omega) (fun c32 => ?_)
      refine aw rfl rfl ?_
      refine aw rfl rfl ?_
      refine aw rfl rfl ?_
      refine aw rfl rfl ?_
      refine aw_cv (d1 := 2) (L1 := 45) rfl rfl cg_105 rfl rfl (by decide) (by decide) (Nat.le_of_ble_eq_true rfl) (c_X0_chanceBy hX3 hc3 hR3 hl hh hw (by omega) (fun hcn => ?_) (fun hcn => ?_))
      · refine aw_ist (ls' := [_, _, _, _, _, _, _, _]) rfl rfl ?_
        refine aw rfl rfl ?_
        refine aw rfl rfl ?_
        refine aw_ile rfl (fun c49 => ?_) (fun c49 => ?_)
        · refine aw_incn (c := 1) (ls' := [_, _, _, _, _, _, _, _]) rfl rfl (by decide) rfl ?_
          refine aw rfl rfl ?_
          have e5 : (bs (fun a => va T LW F l w a (nI (st * T.1 5))) (cnB T l) (i + 1)) = some p9 := by rw [bs_more eb, hcn, decide_eq_false (by have := (nI_leI hvi hp2).mp c49; omega)]; rfl
          have ih := fun y => ih y trivial
          rw [e5] at ih
          exact ih _
        · refine aw rfl rfl ?_
          refine aw_ist (ls' := [_, _, _, _, _, _, _, _]) rfl rfl ?_
          refine aw rfl rfl ?_
          refine aw_ist (ls' := [_, _, _, _, _, _, _, _]) rfl rfl ?_
          refine aw_incn (c := 1) (ls' := [_, _, _, _, _, _, _, _]) rfl rfl (by decide) rfl ?_
          refine aw rfl rfl ?_
          have e5 : (bs (fun a => va T LW F l w a (nI (st * T.1 5))) (cnB T l) (i + 1)) = some (i, va T LW F l w i (nI (st * T.1 5))) := by rw [bs_more eb, hcn, decide_eq_true (by have : ¬ va T LW F l w i (nI (st * T.1 5)) ≤ p9.2 := fun z => c49 (nI_le z hp2); omega)]; rfl
          have ih := fun y => ih y trivial
          rw [e5] at ih
          exact ih _
      · refine aw_ist (ls' := [_, _, _, _, _, _, _, _]) rfl rfl ?_
        refine aw rfl rfl ?_
        refine aw rfl rfl ?_
        refine aw_ile rfl (fun c49 => ?_) (fun c49 => ?_)
        · refine aw_incn (c := 1) (ls' := [_, _, _, _, _, _, _, _]) rfl rfl (by decide) rfl ?_
          refine aw rfl rfl ?_
          have e5 : (bs (fun a => va T LW F l w a (nI (st * T.1 5))) (cnB T l) (i + 1)) = some p9 := by rw [bs_skip hcn]; exact eb
          have ih := fun y => ih y trivial
          rw [e5] at ih
          exact ih _
        · refine aw rfl rfl ?_
          refine aw_ist (ls' := [_, _, _, _, _, _, _, _]) rfl rfl ?_
          refine aw rfl rfl ?_
          refine aw_ist (ls' := [_, _, _, _, _, _, _, _]) rfl rfl ?_
          refine aw_incn (c := 1) (ls' := [_, _, _, _, _, _, _, _]) rfl rfl (by decide) rfl ?_
          refine aw rfl rfl ?_
          exact absurd (Int32.le_trans (by decide : (-1 : Int32) ≤ nI 0) (nI_le (Nat.zero_le _) hp2)) c49
  · skip
    obtain ⟨p9, hp9⟩ := bs_some (T := T) (l := l) (f := fun a => va T LW F l w a (nI (st * T.1 5)))
    have q9 := q g3 v0 v1 K3 (va_up rf 8 q8) t1 hX3 t3 t2 (fun i hi => vu_ot (by omega))
    rw [hp9] at q9 ⊢
    show AW am_P _ _ _ _ [_, _, _, _, some (.int (nI p9.2)), some (.int (nI p9.1)), _, _] _ _ _
    refine aw rfl rfl ?_
    refine aw rfl rfl ?_
    refine aw_getfE rfl cg_105 rfl (congrArg Value.ref (show va_up rf 8 q8 4 = p from hr4)) ?_
    refine aw_getf rfl (sa hp).1 rfl ?_
    refine aw_igtn rfl (fun c32 => ?_) (fun c32 => by omega)
    refine aw rfl rfl ?_
    exact aw_iret rfl rfl q9
end C1
