theorem bs_none {f : Nat → Nat} {cn : Nat → Bool} {n : Nat} (h : bs f cn n = none) : bs f cn (n + 1) = bif cn n then some (n, f n) else none := by rw [bs, h]
theorem bs_more {f : Nat → Nat} {cn : Nat → Bool} {n : Nat} {p : Nat × Nat} (h : bs f cn n = some p) : bs f cn (n + 1) = bif cn n && decide (p.2 < f n) then some (n, f n) else some p := by rw [bs, h]
section M1
variable {g : am_H} {k : Mk} {v pl : Nat → Int32} {br lo : Int32} {c ct pr pt cm bf bt : Nat → Int32}
variable {lv : Nat} {T : Sd} {W : Nat → Lw}
theorem c_X11_bestOf {Q : Option Value → am_H → Prop} (hM : MR k lv T W) (hG : GS T) {F : Nat → Nat → Nat} {l w : Nat} {x : Int32} (hc : CT T c F) (hF : ∀ l w, F l w < 300000000) (hl : lieOK T l) (hw : w < 4) (q : ∀ v pl br lo, Q (some (.int (bs1 (bs (fun a => va T (lwf W) F l w a x) (cnB T l) (T.1 3 + 1))))) (mh g k v pl br lo c ct pr pt cm bf bt)) : AC am_P 5 132 260 [.ref 121, .int (nI (4 * l + w)), .int x] (mh g k v pl br lo c ct pr pt cm bf bt) Q := by
  refine AC.of (ls := [_, _, _, _, _, _, _]) rfl ?_
  have hM0 := hM
  have hG0 := hG
  obtain ⟨m0, m1, mr, mw, mf, mk, mli, mt, ms, msq, moc, mwy, msp, mlw⟩ := hM
  obtain ⟨⟨g0, g0x⟩, ⟨g1, g1x⟩, ⟨g2, g2x⟩, ⟨g3, g3x⟩, g4, ⟨g5, g5x⟩, g6, gsq, goc, gwt, gsp, gfr⟩ := hG
  have hl96 := hl.1
  have hva : ∀ a, a ≤ T.1 3 → va T (lwf W) F l w a x < 2147483648 := fun a ha => by have h1 := va_le (LW := lwf W) (l := l) (w := w) (x := x) hG0 (fun l w => Nat.le_of_lt (hF l w)) ha; omega
  refine aw_c (v := -1) rfl (by decide) ?_
  refine aw_ist (ls' := [_, _, _, _, _, _, _]) rfl rfl ?_
  refine aw_c (v := -1) rfl (by decide) ?_
  refine aw_ist (ls' := [_, _, _, _, _, _, _]) rfl rfl ?_
  refine aw_c (v := nI 0) rfl (by decide) ?_
  refine aw_ist (ls' := [_, _, _, _, _, _, _]) rfl rfl ?_
  refine aw_loop (α := Option Value × (Nat → Int32) × (Nat → Int32) × Int32 × Int32) (ll := fun i y => [some (.ref 121), some (.int (nI (4 * l + w))), some (.int x), some (.int (bs1 (bs (fun a => va T (lwf W) F l w a x) (cnB T l) i))), some (.int (bs2 (bs (fun a => va T (lwf W) F l w a x) (cnB T l) i))), some (.int (nI i)), y.1]) (hh := fun _ y => mh g k y.2.1 y.2.2.1 y.2.2.2.1 y.2.2.2.2 c ct pr pt cm bf bt) (I := fun _ _ => True) (N := T.1 3 + 1) (fun i y hi _ ih => ?_) (fun y _ => ?_) 0 (none, v, pl, br, lo) (Nat.zero_le _) trivial
  · obtain ⟨l6, v, pl, br, lo⟩ := y
    dsimp only
    have ih' : ∀ l6 v pl br lo p, bs (fun a => va T (lwf W) F l w a x) (cnB T l) (i + 1) = p → AW am_P 5 132 260 8 [some (.ref 121), some (.int (nI (4 * l + w))), some (.int x), some (.int (bs1 p)), some (.int (bs2 p)), some (.int (nI (i + 1))), l6] [] (mh g k v pl br lo c ct pr pt cm bf bt) Q := fun l6 v pl br lo p hp => by
      subst hp
      exact ih (l6, v, pl, br, lo) trivial
    have hvi := hva i (by omega)
    by_cases e3 : i = T.1 3
    · have hcn : cnB T l i = true := by unfold cnB; rw [decide_eq_true e3]; rfl
      cases eb : bs (fun a => va T (lwf W) F l w a x) (cnB T l) i with
      | none =>
        have eb2 := bs_none eb
        rw [hcn] at eb2
        refine aw rfl rfl ?_
        refine aw rfl rfl ?_
        refine aw_getf rfl mg_121 rfl ?_
        refine aw rfl rfl ?_
        refine aw_getfE rfl mg_121 rfl (congrArg Value.int m1) ?_
        refine aw_ialdE rfl mg_134 rfl (by omega) (by decide) mk ?_
        refine aw_igtn rfl (fun c19 => by omega) (fun c19 => ?_)
        refine aw rfl rfl ?_
        refine aw rfl rfl ?_
        refine aw_getf rfl mg_121 rfl ?_
        refine aw rfl rfl ?_
        refine aw_getfE rfl mg_121 rfl (congrArg Value.int m1) ?_
        refine aw_ialdE rfl mg_134 rfl (by omega) (by decide) mk ?_
        refine aw_igen rfl (fun c33 => ?_) (fun c33 => by omega)
        refine aw rfl rfl ?_
        refine aw rfl rfl ?_
        refine aw rfl rfl ?_
        refine aw rfl rfl ?_
        refine aw_cv (d1 := 4) (L1 := 107) rfl rfl mg_121 rfl rfl (by decide) (by decide) (Nat.le_of_ble_eq_true rfl) (c_X11_valueOf hM0 hG0 hc hl hw (by omega) (fun v pl br lo => ?_))
        refine aw_ist (ls' := [_, _, _, _, _, _, _]) rfl rfl ?_
        refine aw rfl rfl ?_
        refine aw rfl rfl ?_
        refine aw_igt rfl (fun c63 => ?_) (fun c63 => absurd (Int32.lt_of_lt_of_le (by decide : (-1 : Int32) < nI 0) (nI_le (Nat.zero_le _) hvi)) c63)
        refine aw rfl rfl ?_
        refine aw_ist (ls' := [_, _, _, _, _, _, _]) rfl rfl ?_
        refine aw rfl rfl ?_
        refine aw_ist (ls' := [_, _, _, _, _, _, _]) rfl rfl ?_
        refine aw_incn (c := 1) (ls' := [_, _, _, _, _, _, _]) rfl rfl (by decide) rfl ?_
        refine aw rfl rfl ?_
        exact ih' _ v pl br lo _ eb2
      | some p =>
        have eb2 := bs_more eb
        have hp := bs_lt _ _ _ _ eb
        have hp2 : p.2 < 2147483648 := by rw [hp.2.1]; exact hva _ (by omega)
        rw [hcn] at eb2
        show AW am_P 5 132 260 8 [_, _, _, some (.int (nI p.1)), some (.int (nI p.2)), _, _] [] _ Q
        refine aw rfl rfl ?_
        refine aw rfl rfl ?_
        refine aw_getf rfl mg_121 rfl ?_
        refine aw rfl rfl ?_
        refine aw_getfE rfl mg_121 rfl (congrArg Value.int m1) ?_
        refine aw_ialdE rfl mg_134 rfl (by omega) (by decide) mk ?_
        refine aw_igtn rfl (fun c19 => by omega) (fun c19 => ?_)
        refine aw rfl rfl ?_
        refine aw rfl rfl ?_
        refine aw_getf rfl mg_121 rfl ?_
        refine aw rfl rfl ?_
        refine aw_getfE rfl mg_121 rfl (congrArg Value.int m1) ?_
        refine aw_ialdE rfl mg_134 rfl (by omega) (by decide) mk ?_
        refine aw_igen rfl (fun c33 => ?_) (fun c33 => by omega)
        refine aw rfl rfl ?_
        refine aw rfl rfl ?_
        refine aw rfl rfl ?_
        refine aw rfl rfl ?_
        refine aw_cv (d1 := 4) (L1 := 107) rfl rfl mg_121 rfl rfl (by decide) (by decide) (Nat.le_of_ble_eq_true rfl) (c_X11_valueOf hM0 hG0 hc hl hw (by omega) (fun v pl br lo => ?_))
        refine aw_ist (ls' := [_, _, _, _, _, _, _]) rfl rfl ?_
        refine aw rfl rfl ?_
        refine aw rfl rfl ?_
        refine aw_igtn rfl (fun c63 => ?_) (fun c63 => ?_)
        · refine aw rfl rfl ?_
          refine aw_ist (ls' := [_, _, _, _, _, _, _]) rfl rfl ?_
          refine aw rfl rfl ?_
          refine aw_ist (ls' := [_, _, _, _, _, _, _]) rfl rfl ?_
          refine aw_incn (c := 1) (ls' := [_, _, _, _, _, _, _]) rfl rfl (by decide) rfl ?_
          refine aw rfl rfl ?_
          rw [decide_eq_true c63] at eb2
          exact ih' _ v pl br lo _ eb2
        · refine aw rfl rfl ?_
          refine aw_incn (c := 1) (ls' := [_, _, _, _, _, _, _]) rfl rfl (by decide) rfl ?_
          refine aw rfl rfl ?_
          rw [decide_eq_false c63] at eb2
          exact ih' _ v pl br lo _ eb2
    · cases eb : bs (fun a => va T (lwf W) F l w a x) (cnB T l) i with
      | none =>
        have eb2 := bs_none eb
        refine aw rfl rfl ?_
        refine aw rfl rfl ?_
        refine aw_getf rfl mg_121 rfl ?_
        refine aw rfl rfl ?_
        refine aw_getfE rfl mg_121 rfl (congrArg Value.int m1) ?_
        refine aw_ialdE rfl mg_134 rfl (by omega) (by decide) mk ?_
        refine aw_igtn rfl (fun c19 => by omega) (fun c19 => ?_)
        refine aw rfl rfl ?_
        refine aw rfl rfl ?_
        refine aw_getf rfl mg_121 rfl ?_
        refine aw rfl rfl ?_
        refine aw_getfE rfl mg_121 rfl (congrArg Value.int m1) ?_
        refine aw_ialdE rfl mg_134 rfl (by omega) (by decide) mk ?_
        refine aw_igen rfl (fun c33 => by omega) (fun c33 => ?_)
        refine aw rfl rfl ?_
        refine aw rfl rfl ?_
        refine aw rfl rfl ?_
        refine aw_cv (d1 := 2) (L1 := 43) rfl rfl mg_121 rfl rfl (by decide) (by decide) (Nat.le_of_ble_eq_true rfl) (c_X11_canKick hM0 hG0 hl hw (by omega) (fun z => ?_) (fun z => ?_))
        · refine aw_ne rfl (fun _ => ?_) (fun c => absurd c (by decide))
          refine aw rfl rfl ?_
          refine aw rfl rfl ?_
          refine aw rfl rfl ?_
          refine aw rfl rfl ?_
          refine aw_cv (d1 := 4) (L1 := 107) rfl rfl mg_121 rfl rfl (by decide) (by decide) (Nat.le_of_ble_eq_true rfl) (c_X11_valueOf hM0 hG0 hc hl hw (by omega) (fun v pl br lo => ?_))
          refine aw_ist (ls' := [_, _, _, _, _, _, _]) rfl rfl ?_
          refine aw rfl rfl ?_
          refine aw rfl rfl ?_
          refine aw_igt rfl (fun c63 => ?_) (fun c63 => absurd (Int32.lt_of_lt_of_le (by decide : (-1 : Int32) < nI 0) (nI_le (Nat.zero_le _) hvi)) c63)
          refine aw rfl rfl ?_
          refine aw_ist (ls' := [_, _, _, _, _, _, _]) rfl rfl ?_
          refine aw rfl rfl ?_
          refine aw_ist (ls' := [_, _, _, _, _, _, _]) rfl rfl ?_
          refine aw_incn (c := 1) (ls' := [_, _, _, _, _, _, _]) rfl rfl (by decide) rfl ?_
          refine aw rfl rfl ?_
          have hcn : cnB T l i = true := by unfold cnB; rw [mck_iff.mpr z]; exact Bool.or_true _
          rw [hcn] at eb2
          exact ih' _ v pl br lo _ eb2
        · refine aw_ne rfl (fun c => absurd (by decide) c) (fun _ => ?_)
          refine aw rfl rfl ?_
          refine aw_incn (c := 1) (ls' := [_, _, _, _, _, _, _]) rfl rfl (by decide) rfl ?_
          refine aw rfl rfl ?_
          have hcn : cnB T l i = false := by unfold cnB; rw [decide_eq_false e3]; exact Bool.eq_false_iff.mpr (fun y => z (mck_iff.mp y))
          rw [hcn] at eb2
          exact ih' _ v pl br lo _ eb2
      | some p =>
        have eb2 := bs_more eb
        have hp := bs_lt _ _ _ _ eb
        have hp2 : p.2 < 2147483648 := by rw [hp.2.1]; exact hva _ (by omega)
        show AW am_P 5 132 260 8 [_, _, _, some (.int (nI p.1)), some (.int (nI p.2)), _, _] [] _ Q
        refine aw rfl rfl ?_
        refine aw rfl rfl ?_
        refine aw_getf rfl mg_121 rfl ?_
        refine aw rfl rfl ?_
        refine aw_getfE rfl mg_121 rfl (congrArg Value.int m1) ?_
        refine aw_ialdE rfl mg_134 rfl (by omega) (by decide) mk ?_
        refine aw_igtn rfl (fun c19 => by omega) (fun c19 => ?_)
        refine aw rfl rfl ?_
        refine aw rfl rfl ?_
        refine aw_getf rfl mg_121 rfl ?_
        refine aw rfl rfl ?_
        refine aw_getfE rfl mg_121 rfl (congrArg Value.int m1) ?_
        refine aw_ialdE rfl mg_134 rfl (by omega) (by decide) mk ?_
        refine aw_igen rfl (fun c33 => by omega) (fun c33 => ?_)
        refine aw rfl rfl ?_
        refine aw rfl rfl ?_
        refine aw rfl rfl ?_
        refine aw_cv (d1 := 2) (L1 := 43) rfl rfl mg_121 rfl rfl (by decide) (by decide) (Nat.le_of_ble_eq_true rfl) (c_X11_canKick hM0 hG0 hl hw (by omega) (fun z => ?_) (fun z => ?_))
        · refine aw_ne rfl (fun _ => ?_) (fun c => absurd c (by decide))
          refine aw rfl rfl ?_
          refine aw rfl rfl ?_
          refine aw rfl rfl ?_
          refine aw rfl rfl ?_
          refine aw_cv (d1 := 4) (L1 := 107) rfl rfl mg_121 rfl rfl (by decide) (by decide) (Nat.le_of_ble_eq_true rfl) (c_X11_valueOf hM0 hG0 hc hl hw (by omega) (fun v pl br lo => ?_))
          refine aw_ist (ls' := [_, _, _, _, _, _, _]) rfl rfl ?_
          refine aw rfl rfl ?_
          refine aw rfl rfl ?_
          refine aw_igtn rfl (fun c63 => ?_) (fun c63 => ?_)
          · refine aw rfl rfl ?_
            refine aw_ist (ls' := [_, _, _, _, _, _, _]) rfl rfl ?_
            refine aw rfl rfl ?_
            refine aw_ist (ls' := [_, _, _, _, _, _, _]) rfl rfl ?_
            refine aw_incn (c := 1) (ls' := [_, _, _, _, _, _, _]) rfl rfl (by decide) rfl ?_
            refine aw rfl rfl ?_
            have hcn : cnB T l i = true := by unfold cnB; rw [mck_iff.mpr z]; exact Bool.or_true _
            rw [hcn] at eb2
            rw [decide_eq_true c63] at eb2
            exact ih' _ v pl br lo _ eb2
          · refine aw rfl rfl ?_
            refine aw_incn (c := 1) (ls' := [_, _, _, _, _, _, _]) rfl rfl (by decide) rfl ?_
            refine aw rfl rfl ?_
            have hcn : cnB T l i = true := by unfold cnB; rw [mck_iff.mpr z]; exact Bool.or_true _
            rw [hcn] at eb2
            rw [decide_eq_false c63] at eb2
            exact ih' _ v pl br lo _ eb2
        · refine aw_ne rfl (fun c => absurd (by decide) c) (fun _ => ?_)
          refine aw rfl rfl ?_
          refine aw_incn (c := 1) (ls' := [_, _, _, _, _, _, _]) rfl rfl (by decide) rfl ?_
          refine aw rfl rfl ?_
          have hcn : cnB T l i = false := by unfold cnB; rw [decide_eq_false e3]; exact Bool.eq_false_iff.mpr (fun y => z (mck_iff.mp y))
          rw [hcn] at eb2
          exact ih' _ v pl br lo _ eb2
  · obtain ⟨l6, v, pl, br, lo⟩ := y
    dsimp only
    refine aw rfl rfl ?_
    refine aw rfl rfl ?_
    refine aw_getf rfl mg_121 rfl ?_
    refine aw rfl rfl ?_
    refine aw_getfE rfl mg_121 rfl (congrArg Value.int m1) ?_
    refine aw_ialdE rfl mg_134 rfl (by omega) (by decide) mk ?_
    refine aw_igtn rfl (fun c19 => ?_) (fun c19 => by omega)
    refine aw rfl rfl ?_
    exact aw_iret rfl rfl (q _ _ _ _)
end M1
