/-! ===== the class: fits, often ===== -/
theorem va_nn {α : Type} {f : Nat → α} {a b c d : α} : va_up (va_up (va_up (va_up f 117 a) 116 b) 117 c) 116 d = va_up (va_up f 117 c) 116 d := by
  funext n
  unfold va_up
  by_cases e : n = 116 <;> by_cases e2 : n = 117 <;> simp [e, e2]
theorem va_nm {α : Type} {f : Nat → α} {a b d : α} : va_up (va_up (va_up f 117 a) 116 b) 116 d = va_up (va_up f 117 a) 116 d := va_tw2
section C1
variable {g : am_H} {T0 T1 T : Sd} {u0 u1 : Ua} {K : Ck} {rf : Nat → Nat} {p : Nat} {S : Nat → Nat} {u td nt cc : Nat} {P Z : Nat → Nat → Nat} {TD : Nat → Nat} {hd : Nat → Bool} {tp : Nat → Int32} {pc : Int32} {W : Nat → Lw}
variable {no na : Nat} {lf : Nat → Nat}
theorem st_sum {s : Nat} (h : s < 3) : (fun f => if f = s then 1 else 0) 0 + (fun f => if f = s then 1 else 0) 1 + (fun f => if f = s then 1 else 0) 2 = 1 := by
  have : s = 0 ∨ s = 1 ∨ s = 2 := by omega
  rcases this with rfl | rfl | rfl <;> rfl
theorem c_X5_weight {Q : Option Value → am_H → Prop} (hG : GS T) (h26 : K.1 26 = nI (T.1 3)) (h27 : K.1 27 = nI (stF T)) {k : Nat} (hk : k ≤ 5) (h32 : ∀ i, i < k → TD i < 32) (hW : WYr T (lwf W) TD (K.2.1 115) k) {code : Nat} (hc : code < 4 ^ k) {z1 z2 : Nat → Int32} (q : ∀ y1 y2, Q (some (.int (nI (oft T (lwf W) TD k code)))) (ch g T0 u0 T1 u1 (K.1, va_up (va_up K.2.1 117 y2) 116 y1, K.2.2) rf)) : AC am_P 2 69 77 [.ref 113, .int (nI k), .int (nI code)] (ch g T0 u0 T1 u1 (K.1, va_up (va_up K.2.1 117 z2) 116 z1, K.2.2) rf) Q := by
  refine AC.of (ls := [_, _, _, _, _, _]) rfl ?_
  have hG0 := hG
  obtain ⟨⟨g0, g0x⟩, ⟨g1, g1x⟩, ⟨g2, g2x⟩, ⟨g3, g3x⟩, g4, ⟨g5, g5x⟩, g6, gsq, goc, gwt, gsp, gfr⟩ := hG
  have h44 := p4_le hk
  obtain ⟨sa9, se9, sf9, d0, d1, d2, d3, d4, d5, d6⟩ := gsp
  have hsf : stF T < 3 := by unfold stF; rw [d2, nI_clamp (by omega)]; omega
  have hst32 : stS T < 32 := by unfold stS; rw [d0, d1, nI_clamp (by omega), nI_clamp (by omega)]; omega
  refine aw rfl rfl ?_
  refine aw_getf rfl cg_113 rfl ?_
  refine aw_c (v := nI 0) rfl (by decide) ?_
  refine aw_cs (d1 := 0) (L1 := 0) rfl rfl (by decide) (by decide) (Nat.le_of_ble_eq_true rfl) (c_fill cg_116 (by decide) (by decide) (fun f9 hf9 => ?_))
  unfold am_ints
  rw [cu_116]
  refine aw rfl rfl ?_
  refine aw_getf rfl cg_113 rfl ?_
  refine aw rfl rfl ?_
  refine aw_getfE rfl cg_113 rfl (congrArg Value.int h27) ?_
  refine aw_c (v := nI 1) rfl (by decide) ?_
  refine aw_iastU rfl cg_116 rfl (by omega) (by decide) (by decide) cu_116 ?_
  refine aw_c (v := nI 1) rfl (by decide) ?_
  refine aw_ist (ls' := [_, _, _, _, _, _]) rfl rfl ?_
  refine aw_c (v := nI 0) rfl (by decide) ?_
  refine aw_ist (ls' := [_, _, _, _, _, _]) rfl rfl ?_
  refine (show AW am_P 2 69 77 23 [some (.ref 113), some (.int (nI k)), some (.int (nI code)), some (.int (nI 1)), some (.int (nI 0)), none] [] (ch g T0 u0 T1 u1 (K.1, va_up (va_up K.2.1 117 z2) 116 (upd f9 (stF T) (nI 1)), K.2.2) rf) Q → _ from fun z => by show AW am_P _ _ _ _ _ _ (ch g T0 u0 T1 u1 (_, va_up (va_up (va_up (va_up K.2.1 117 z2) 116 z1) 116 f9) 116 (upd f9 (stF T) (nI 1)), _) rf) _; rw [va_tw2, va_tw2]; exact z) ?_
  refine (show ∀ n, n = 1 → AW am_P 2 69 77 23 [some (.ref 113), some (.int (nI k)), some (.int (nI code)), some (.int (nI n)), some (.int (nI 0)), none] [] (ch g T0 u0 T1 u1 (K.1, va_up (va_up K.2.1 117 z2) 116 (upd f9 (stF T) (nI 1)), K.2.2) rf) Q from fun n hn => ?_) 1 rfl
  rw [show n = (fun f => if f = stF T then 1 else 0) 0 + (fun f => if f = stF T then 1 else 0) 1 + (fun f => if f = stF T then 1 else 0) 2 from hn.trans (st_sum hsf).symm]
  have key : ∀ m i (U : Nat → Nat) y1 y2 l5, i + m = k → fitU T (lwf W) TD k code i = some U → (∀ f, f < 3 → y1 f = nI (U f)) → AW am_P 2 69 77 23 [some (.ref 113), some (.int (nI k)), some (.int (nI code)), some (.int (nI (U 0 + U 1 + U 2))), some (.int (nI i)), l5] [] (ch g T0 u0 T1 u1 (K.1, va_up (va_up K.2.1 117 y2) 116 y1, K.2.2) rf) Q := by
    intro m
    induction m with
    | zero =>
      intro i U y1 y2 l5 hi hU hy
      have e : i = k := by omega
      subst e
      have eo : oft T (lwf W) TD i code = U 0 + U 1 + U 2 := by unfold oft; rw [hU]; rfl
      rw [eo] at q
      refine aw rfl rfl ?_
      refine aw rfl rfl ?_
      refine aw_igen rfl (fun c26 => ?_) (fun c26 => by omega)
      refine aw rfl rfl ?_
      exact aw_iret rfl rfl (q _ _)
    | succ m ih =>
      intro i U y1 y2 l5 hi hU hy
      obtain ⟨hUb, hUl⟩ := fitU_in hG0 i U (fun j hj => h32 j (by omega)) hU
      have h18 := p18_le (show i ≤ 5 by omega)
      have b0 := hUb 0 (by decide)
      have b1 := hUb 1 (by decide)
      have b2 := hUb 2 (by decide)
      have hsq : sqI T TD i < 32 := by unfold sqI; split; exact hst32; exact h32 _ (by omega)
      refine aw rfl rfl ?_
      refine aw rfl rfl ?_
      refine aw_igen rfl (fun c26 => by omega) (fun c26 => ?_)
      refine aw rfl rfl ?_
      refine aw_c (v := nI 5) rfl (by decide) ?_
      refine aw_igen rfl (fun c32 => by omega) (fun c32 => ?_)
      refine aw rfl rfl ?_
      refine aw_len rfl (fun c36 => ?_) (fun c36 => ?_)
      · refine aw rfl rfl ?_
        exact aw_iret rfl rfl (by have e := oft_zero hU (by omega) c36; rw [e] at q; rw [c36]; exact q _ _)
      · refine aw rfl rfl ?_
        refine aw_c (v := nI 2) rfl (by decide) ?_
        refine aw rfl rfl ?_
        refine aw_c (v := nI 1) rfl (by decide) ?_
        refine aw_subn rfl (by omega) ?_
        refine aw rfl rfl ?_
        refine aw_subn rfl (by omega) ?_
        refine aw_muln rfl ?_
        refine aw rfl rfl ?_
        refine aw_c (v := nI 3) rfl (by decide) ?_
        refine aw rfl rfl ?_
        rw [n_code (by omega) (by omega)]
        refine aw_ist (ls' := [_, _, _, _, _, _]) rfl rfl ?_
        refine aw rfl rfl ?_
        refine aw rfl rfl ?_
        refine aw_getfE rfl cg_113 rfl (congrArg Value.int h26) ?_
        refine aw_igen rfl (fun c59 => ?_) (fun c59 => ?_)
        · refine aw_c (v := nI 0) rfl (by decide) ?_
          refine aw_ist (ls' := [_, _, _, _, _, _]) rfl rfl ?_
          refine aw_incn (c := 1) (ls' := [_, _, _, _, _, _]) rfl rfl (by decide) rfl ?_
          refine aw rfl rfl ?_
          refine aw rfl rfl ?_
          refine aw rfl rfl ?_
          refine aw_igen rfl (fun c26 => ?_) (fun c26 => ?_)
          · refine aw rfl rfl ?_
            exact aw_iret rfl rfl (by have h9 : fitU T (lwf W) TD k code (i + 1) = none := (by rw [fitU, hU]; exact if_neg (by omega)); have h10 := fitU_none h9 (k - (i + 1)); rw [show i + 1 + (k - (i + 1)) = k by omega] at h10; have e : oft T (lwf W) TD k code = 0 := (by unfold oft; rw [h10]; rfl); rw [e] at q; exact q _ _)
          · refine aw rfl rfl ?_
            refine aw_c (v := nI 5) rfl (by decide) ?_
            refine aw_igen rfl (fun c32 => by omega) (fun c32 => ?_)
            refine aw rfl rfl ?_
            refine aw_le rfl (fun _ => ?_) (fun c => absurd (by decide) c)
            refine aw rfl rfl ?_
            exact aw_iret rfl rfl (by have h9 : fitU T (lwf W) TD k code (i + 1) = none := (by rw [fitU, hU]; exact if_neg (by omega)); have h10 := fitU_none h9 (k - (i + 1)); rw [show i + 1 + (k - (i + 1)) = k by omega] at h10; have e : oft T (lwf W) TD k code = 0 := (by unfold oft; rw [h10]; rfl); rw [e] at q; exact q _ _)
        · refine aw rfl rfl ?_
          refine aw rfl rfl ?_
          refine aw rfl rfl ?_
          refine aw_cv (d1 := 1) (L1 := 43) rfl rfl cg_113 rfl rfl (by decide) (by decide) (Nat.le_of_ble_eq_true rfl) (c_X5_pass (K := (K.1, va_up (va_up K.2.1 117 y2) 116 y1, K.2.2)) (U := U) (w := wyV T (lwf W) (sqI T TD i) (TD i) (code / 4 ^ (k - 1 - i) % 4) (nI (i * T.1 5))) (by omega) (by omega) hy (fun f f' h1 h2 => hW i (by omega) _ (by omega) f f' h1 h2) (fun y3 y4 h3 => ?_))
          refine aw rfl rfl ?_
          refine aw_ist (ls' := [_, _, _, _, _, _]) rfl rfl ?_
          refine aw_incn (c := 1) (ls' := [_, _, _, _, _, _]) rfl rfl (by decide) rfl ?_
          refine aw rfl rfl ?_
          have es : ∀ f, sm (fun f2 => U f2 * wyV T (lwf W) (sqI T TD i) (TD i) (code / 4 ^ (k - 1 - i) % 4) (nI (i * T.1 5)) f2 f) 3 = fitS T (lwf W) (sqI T TD i) (TD i) (code / 4 ^ (k - 1 - i) % 4) (nI (i * T.1 5)) U f := fun f => (sm_congr 3 (fun f2 h2 => fit_cls hG0 hsq (by omega) hUl h2)).symm
          rw [es 0, es 1, es 2]
          show AW am_P _ _ _ _ _ _ (ch g T0 u0 T1 u1 (_, va_up (va_up (va_up (va_up K.2.1 117 y2) 116 y1) 117 y4) 116 y3, _) rf) _
          rw [va_nn]
          exact ih (i + 1) (fitS T (lwf W) (sqI T TD i) (TD i) (code / 4 ^ (k - 1 - i) % 4) (nI (i * T.1 5)) U) y3 y4 _ (by omega) (by rw [fitU, hU]; exact if_pos (by omega)) (fun f hf => (h3 f hf).trans (congrArg nI (es f)))
  exact key k 0 (fun f => if f = stF T then 1 else 0) _ _ _ (Nat.zero_add _) rfl (fun f hf => by
    by_cases e : f = stF T
    · subst e; exact upd_at.trans (congrArg nI (if_pos rfl).symm)
    · exact (upd_ne e).trans ((hf9 f hf).trans (congrArg nI (if_neg e).symm)))
theorem c_X5_howMany {Q : Option Value → am_H → Prop} (hG : GS T) (h26 : K.1 26 = nI (T.1 3)) (h27 : K.1 27 = nI (stF T)) {k : Nat} (hk : k ≤ 5) (h32 : ∀ i, i < k → TD i < 32) (hW : WYr T (lwf W) TD (K.2.1 115) k) {z1 z2 : Nat → Int32} (q : ∀ y1 y2, Q (some (.int (nI (ctN (ftP T (lwf W) TD k) (4 ^ k))))) (ch g T0 u0 T1 u1 (K.1, va_up (va_up K.2.1 117 y2) 116 y1, K.2.2) rf)) : AC am_P 3 94 76 [.ref 113, .int (nI k)] (ch g T0 u0 T1 u1 (K.1, va_up (va_up K.2.1 117 z2) 116 z1, K.2.2) rf) Q := by
  refine AC.of (ls := [_, _, _, _]) rfl ?_
  have hG0 := hG
  obtain ⟨⟨g0, g0x⟩, ⟨g1, g1x⟩, ⟨g2, g2x⟩, ⟨g3, g3x⟩, g4, ⟨g5, g5x⟩, g6, gsq, goc, gwt, gsp, gfr⟩ := hG
  have h44 := p4_le hk
  have h45 := n_shl4 k hk
  refine aw_c (v := nI 0) rfl (by decide) ?_
  refine aw_ist (ls' := [_, _, _, _]) rfl rfl ?_
  refine aw_c (v := nI 0) rfl (by decide) ?_
  refine aw_ist (ls' := [_, _, _, _]) rfl rfl ?_
  refine aw_loop (α := (Nat → Int32) × (Nat → Int32)) (ll := fun i y => [some (.ref 113), some (.int (nI k)), some (.int (nI (ctN (ftP T (lwf W) TD k) i))), some (.int (nI i))]) (hh := fun i y => (ch g T0 u0 T1 u1 (K.1, va_up (va_up K.2.1 117 y.2) 116 y.1, K.2.2) rf)) (I := fun i y => True) (N := 4 ^ k) (fun i y hi hI ih => ?_) (fun y hI => ?_) 0 (z1, z2) (Nat.zero_le _) trivial
  · skip
    obtain ⟨z1, z2⟩ := y
    dsimp only
    have hct := ctN_le (P := ftP T (lwf W) TD k) i
    have hof := oft_le (LW := lwf W) (k := k) (code := i) hG0 hk h32
    refine aw rfl rfl ?_
    refine aw_c (v := nI 1) rfl (by decide) ?_
    refine aw_c (v := nI 2) rfl (by decide) ?_
    refine aw rfl rfl ?_
    refine aw_muln rfl ?_
    refine aw rfl rfl ?_
    rw [h45]
    refine aw_igen rfl (fun c10 => by omega) (fun c10 => ?_)
    refine aw rfl rfl ?_
    refine aw rfl rfl ?_
    refine aw rfl rfl ?_
    refine aw_cv (d1 := 2) (L1 := 69) rfl rfl cg_113 rfl rfl (by decide) (by decide) (Nat.le_of_ble_eq_true rfl) (c_X5_weight hG0 h26 h27 hk h32 hW (by omega) (fun y1 y2 => ?_))
    refine aw_len rfl (fun c19 => ?_) (fun c19 => ?_)
    · refine aw_incn (c := 1) (ls' := [_, _, _, _]) rfl rfl (by decide) rfl ?_
      refine aw rfl rfl ?_
      have ep : ftP T (lwf W) TD k i = false := by unfold ftP; rw [decide_eq_true c19]; rfl
      have e9 : ctN (ftP T (lwf W) TD k) (i + 1) = ctN (ftP T (lwf W) TD k) i := by show ctN _ i + (bif _ then 1 else 0) = _; rw [ep]; rfl
      have ih := ih (y1, y2) trivial
      rw [e9] at ih
      exact ih
    · refine aw_incn (c := 1) (ls' := [_, _, _, _]) rfl rfl (by decide) rfl ?_
      refine aw_incn (c := 1) (ls' := [_, _, _, _]) rfl rfl (by decide) rfl ?_
      refine aw rfl rfl ?_
      have ep : ftP T (lwf W) TD k i = true := by unfold ftP; rw [decide_eq_false (Nat.pos_iff_ne_zero.mp c19)]; rfl
      have e9 : ctN (ftP T (lwf W) TD k) (i + 1) = ctN (ftP T (lwf W) TD k) i + 1 := by show ctN _ i + (bif _ then 1 else 0) = _; rw [ep]; rfl
      have ih := ih (y1, y2) trivial
      rw [e9] at ih
      exact ih
  · skip
    obtain ⟨z1, z2⟩ := y
    dsimp only
    refine aw rfl rfl ?_
    refine aw_c (v := nI 1) rfl (by decide) ?_
    refine aw_c (v := nI 2) rfl (by decide) ?_
    refine aw rfl rfl ?_
    refine aw_muln rfl ?_
    refine aw rfl rfl ?_
    rw [h45]
    refine aw_igen rfl (fun c10 => ?_) (fun c10 => by omega)
    refine aw rfl rfl ?_
    exact aw_iret rfl rfl (q _ _)
theorem c_X5_codeOf {Q : Option Value → am_H → Prop} (hG : GS T) (h26 : K.1 26 = nI (T.1 3)) (h27 : K.1 27 = nI (stF T)) {k : Nat} (hk : k ≤ 5) (h32 : ∀ i, i < k → TD i < 32) (hW : WYr T (lwf W) TD (K.2.1 115) k) {x : Int32} {z1 z2 : Nat → Int32} (q : ∀ y1 y2, Q (some (.int (exI (nthF (ftP T (lwf W) TD k) x (4 ^ k) 0 0)))) (ch g T0 u0 T1 u1 (K.1, va_up (va_up K.2.1 117 y2) 116 y1, K.2.2) rf)) : AC am_P 3 94 79 [.ref 113, .int (nI k), .int x] (ch g T0 u0 T1 u1 (K.1, va_up (va_up K.2.1 117 z2) 116 z1, K.2.2) rf) Q := by
  refine AC.of (ls := [_, _, _, _, _]) rfl ?_
  have hG0 := hG
  obtain ⟨⟨g0, g0x⟩, ⟨g1, g1x⟩, ⟨g2, g2x⟩, ⟨g3, g3x⟩, g4, ⟨g5, g5x⟩, g6, gsq, goc, gwt, gsp, gfr⟩ := hG
  have h44 := p4_le hk
  have h45 := n_shl4 k hk
  have key : ∀ m i n z1 z2, i + m = 4 ^ k → n ≤ i → (∀ y1 y2, Q (some (.int (exI (nthF (ftP T (lwf W) TD k) x m i n)))) (ch g T0 u0 T1 u1 (K.1, va_up (va_up K.2.1 117 y2) 116 y1, K.2.2) rf)) → AW am_P 3 94 79 5 [some (.ref 113), some (.int (nI k)), some (.int x), some (.int (nI n)), some (.int (nI i))] [] (ch g T0 u0 T1 u1 (K.1, va_up (va_up K.2.1 117 z2) 116 z1, K.2.2) rf) Q := by
    intro m
    induction m with
    | zero =>
      intro i n z1 z2 hi hn q
      refine aw rfl rfl ?_
      refine aw_c (v := nI 1) rfl (by decide) ?_
      refine aw_c (v := nI 2) rfl (by decide) ?_
      refine aw rfl rfl ?_
      refine aw_muln rfl ?_
      refine aw rfl rfl ?_
      rw [h45]
      refine aw_igen rfl (fun c12 => ?_) (fun c12 => by omega)
      refine aw_c (v := -1) rfl (by decide) ?_
      exact aw_iret rfl rfl (q _ _)
    | succ m ih =>
      intro i n z1 z2 hi hn q
      have hof := oft_le (LW := lwf W) (k := k) (code := i) hG0 hk h32
      rw [nthF] at q
      refine aw rfl rfl ?_
      refine aw_c (v := nI 1) rfl (by decide) ?_
      refine aw_c (v := nI 2) rfl (by decide) ?_
      refine aw rfl rfl ?_
      refine aw_muln rfl ?_
      refine aw rfl rfl ?_
      rw [h45]
      refine aw_igen rfl (fun c12 => by omega) (fun c12 => ?_)
      refine aw rfl rfl ?_
      refine aw rfl rfl ?_
      refine aw rfl rfl ?_
      refine aw_cv (d1 := 2) (L1 := 69) rfl rfl cg_113 rfl rfl (by decide) (by decide) (Nat.le_of_ble_eq_true rfl) (c_X5_weight hG0 h26 h27 hk h32 hW (by omega) (fun y1 y2 => ?_))
      refine aw_len rfl (fun c22 => ?_) (fun c22 => ?_)
      · refine aw_incn (c := 1) (ls' := [_, _, _, _, _]) rfl rfl (by decide) rfl ?_
        refine aw rfl rfl ?_
        have ep : ftP T (lwf W) TD k i = false := by unfold ftP; rw [decide_eq_true c22]; rfl
        exact ih (i + 1) n _ _ (by omega) (by omega) (by rw [ep, cond_false] at q; exact q)
      · have ep : ftP T (lwf W) TD k i = true := by unfold ftP; rw [decide_eq_false (Nat.pos_iff_ne_zero.mp c22)]; rfl
        refine aw rfl rfl ?_
        refine aw rfl rfl ?_
        refine aw_ine rfl (fun c27 => ?_) (fun c27 => ?_)
        · refine aw_incn (c := 1) (ls' := [_, _, _, _, _]) rfl rfl (by decide) rfl ?_
          refine aw_incn (c := 1) (ls' := [_, _, _, _, _]) rfl rfl (by decide) rfl ?_
          refine aw rfl rfl ?_
          exact ih (i + 1) (n + 1) _ _ (by omega) (by omega) (by rw [ep, cond_true, if_neg c27] at q; exact q)
        · refine aw rfl rfl ?_
          exact aw_iret rfl rfl (by rw [ep, cond_true, if_pos c27] at q; exact q _ _)
  refine aw_c (v := nI 0) rfl (by decide) ?_
  refine aw_ist (ls' := [_, _, _, _, _]) rfl rfl ?_
  refine aw_c (v := nI 0) rfl (by decide) ?_
  refine aw_ist (ls' := [_, _, _, _, _]) rfl rfl ?_
  exact key (4 ^ k) 0 0 _ _ (Nat.zero_add _) (Nat.le_refl _) q
end C1
