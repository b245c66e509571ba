def rI : Option Nat → Int32
  | none => -1
  | some j => nI j
/-- a row filled up to i -/
def CU (T : Sd) (ct : Nat → Int32) (V : Nat → Nat → Nat) (i : Nat) : Prop := ∀ l w, w < 4 → 4 * l + w < i → lieOK T l → ct (4 * l + w) = nI (V l w)
theorem CU.no {T : Sd} {ct : Nat → Int32} {V : Nat → Nat → Nat} {l w : Nat} (h : CU T ct V (4 * l + w)) (hw : w < 4) (hn : ¬ lieOK T l) : CU T ct V (4 * l + w + 1) := by
  intro l' w' hw' hlt hl'
  by_cases e : 4 * l' + w' = 4 * l + w
  · have e1 : l' = l := by omega
    subst e1
    exact absurd hl' hn
  · exact h l' w' hw' (by omega) hl'
theorem CU.up {T : Sd} {ct : Nat → Int32} {V : Nat → Nat → Nat} {l w : Nat} {z : Int32} (h : CU T ct V (4 * l + w)) (hw : w < 4) (hz : lieOK T l → z = nI (V l w)) : CU T (upd ct (4 * l + w) z) V (4 * l + w + 1) := by
  intro l' w' hw' hlt hl'
  by_cases e : 4 * l' + w' = 4 * l + w
  · have e1 : l' = l := by omega
    have e2 : w' = w := by omega
    subst e1 e2
    rw [pk_us]
    exact hz hl'
  · rw [pk_un e]
    exact h l' w' hw' (by omega) hl'
theorem n_4 (i : Nat) : ∃ l w : Nat, w < 4 ∧ i = 4 * l + w := ⟨i / 4, i % 4, by omega, by omega⟩
section M1
variable {g : am_H} {k : Mk} {v pl : Nat → Int32} {br lo : Int32} {c ct pr pt cm bf bt : Nat → Int32}
variable {lv : Nat} {T : Sd} {W : Nat → Lw}
theorem c_X11_earlier {Q : Option Value → am_H → Prop} (hM : MR k lv T W) (hG : GS T) {F : Nat → Nat → Nat} {x : Int32} {hv : Nat} {r : Option Nat} (hr : ∀ j, r = some j → j < T.1 3) (hc : CT T c F) (hF : ∀ l w, F l w < 300000000) (q : ∀ v pl br lo c' ct', CT T c' (fun l w => lay T (lwf W) F r (fun _ => 6 * hv) l w x) → Q none (mh g k v pl br lo c' ct' pr pt cm bf bt)) : AC am_P 6 158 259 [.ref 121, .int (rI r), .int x, .int (nI hv)] (mh g k v pl br lo c ct pr pt cm bf bt) Q := by
  refine AC.of (ls := [_, _, _, _, _, _]) rfl ?_
  have hM0 := hM
  have hG0 := hG
  obtain ⟨m0, m1, mr, mw, mf, mk, mli, mt, ms, msq, moc, mwy, msp, mlw⟩ := hM
  obtain ⟨⟨g0, g0x⟩, ⟨g1, g1x⟩, ⟨g2, g2x⟩, ⟨g3, g3x⟩, g4, ⟨g5, g5x⟩, g6, gsq, goc, gwt, gsp, gfr⟩ := hG
  refine aw_c (v := nI 0) rfl (by decide) ?_
  refine aw_ist (ls' := [_, _, _, _, _, _]) rfl rfl ?_
  refine aw_loop (α := Option Value × (Nat → Int32) × (Nat → Int32) × Int32 × Int32 × (Nat → Int32)) (ll := fun i y => [some (.ref 121), some (.int (rI r)), some (.int x), some (.int (nI hv)), some (.int (nI i)), y.1]) (hh := fun _ y => mh g k y.2.1 y.2.2.1 y.2.2.2.1 y.2.2.2.2.1 c y.2.2.2.2.2 pr pt cm bf bt) (I := fun i y => CU T y.2.2.2.2.2 (fun l w => lay T (lwf W) F r (fun _ => 6 * hv) l w x) i) (N := 384) (fun i y hi hI ih => ?_) (fun y hI => ?_) 0 (none, v, pl, br, lo, ct) (Nat.zero_le _) (fun l w _ h => absurd h (Nat.not_lt_zero _))
  · obtain ⟨l5, v, pl, br, lo, ct⟩ := y
    dsimp only at hI ⊢
    obtain ⟨l, w, hw, rfl⟩ := n_4 i
    have hl96 : l < 96 := by omega
    have eh : ∀ z, T.2 0 (l / 3) = nI 6 → lay T (lwf W) F r (fun _ => 6 * hv) l w z = 6 * hv := fun z hz => by unfold lay; rw [if_pos (show hm T l = true from decide_eq_true hz)]
    have en : ∀ z, ¬ T.2 0 (l / 3) = nI 6 → lay T (lwf W) F r (fun _ => 6 * hv) l w z = va T (lwf W) F l w (act T (lwf W) F r l w z) z := fun z hz => by unfold lay; rw [if_neg (show ¬ hm T l = true from fun y => hz (of_decide_eq_true y))]
    have har := fun z => act_le (T := T) (LW := lwf W) (F := F) (l := l) (w := w) (x := z) hr
    cases r with
    | none =>
      refine aw rfl rfl ?_
      refine aw_c (v := nI 384) rfl (by decide) ?_
      refine aw_igen rfl (fun c8 => by omega) (fun c8 => ?_)
      refine aw rfl rfl ?_
      refine aw rfl rfl ?_
      refine aw_cv (d1 := 2) (L1 := 43) rfl rfl mg_121 rfl rfl (by decide) (by decide) (Nat.le_of_ble_eq_true rfl) (c_X11_isSquare hM0 hG0 (by omega) hw (fun hl => ?_) (fun hl => ?_))
      · refine aw_ne rfl (fun _ => ?_) (fun c => absurd c (by decide))
        refine aw rfl rfl ?_
        refine aw rfl rfl ?_
        refine aw_cv (d1 := 1) (L1 := 22) rfl rfl mg_121 rfl rfl (by decide) (by decide) (Nat.le_of_ble_eq_true rfl) (c_so hM0 hG0 hl96 hw hl.2.1 hl.2.2.1 ?_)
        refine aw_c (v := nI 6) rfl (by decide) ?_
        refine aw_ine rfl (fun c31 => ?_) (fun c31 => ?_)
        · refine aw rfl rfl ?_
          refine aw_ge rfl (fun c => absurd c (by decide)) (fun _ => ?_)
          refine aw rfl rfl ?_
          refine aw rfl rfl ?_
          refine aw rfl rfl ?_
          refine aw_cv (d1 := 5) (L1 := 132) rfl rfl mg_121 rfl rfl (by decide) (by decide) (Nat.le_of_ble_eq_true rfl) (c_X11_bestOf hM0 hG0 hc hF hl hw (fun v pl br lo => ?_))
          have hax := (har x).1
          have ea : bs1 (bs (fun a => va T (lwf W) F l w a x) (cnB T l) (T.1 3 + 1)) = nI (act T (lwf W) F none l w x) := by
            obtain ⟨p, hp⟩ := bs_some (T := T) (l := l) (f := fun a => va T (lwf W) F l w a x)
            show _ = nI (bsA (bs _ _ _))
            rw [hp]
            rfl
          rw [ea]
          refine aw rfl rfl ?_
          refine aw_ist (ls' := [_, _, _, _, _, _]) rfl rfl ?_
          refine aw rfl rfl ?_
          refine aw_getf rfl mg_121 rfl ?_
          refine aw rfl rfl ?_
          refine aw rfl rfl ?_
          refine aw rfl rfl ?_
          refine aw rfl rfl ?_
          refine aw rfl rfl ?_
          refine aw_cv (d1 := 4) (L1 := 107) rfl rfl mg_121 rfl rfl (by decide) (by decide) (Nat.le_of_ble_eq_true rfl) (c_X11_valueOf hM0 hG0 hc hl hw (by omega) (fun v pl br lo => ?_))
          refine aw_iastU rfl mg_160 rfl (by omega) (by decide) (by decide) mu_160 ?_
          refine aw_incn (c := 1) (ls' := [_, _, _, _, _, _]) rfl rfl (by decide) rfl ?_
          refine aw rfl rfl ?_
          exact ih (_, v, pl, br, lo, _) (hI.up hw (fun _ => by rw [en x c31]))
        · refine aw rfl rfl ?_
          refine aw_getf rfl mg_121 rfl ?_
          refine aw rfl rfl ?_
          refine aw_c (v := nI 6) rfl (by decide) ?_
          refine aw rfl rfl ?_
          refine aw_muln rfl ?_
          refine aw_iastU rfl mg_160 rfl (by omega) (by decide) (by decide) mu_160 ?_
          refine aw rfl rfl ?_
          refine aw_incn (c := 1) (ls' := [_, _, _, _, _, _]) rfl rfl (by decide) rfl ?_
          refine aw rfl rfl ?_
          exact ih (_, v, pl, br, lo, _) (hI.up hw (fun _ => by rw [eh x c31]))
      · refine aw_ne rfl (fun c => absurd (by decide) c) (fun _ => ?_)
        refine aw rfl rfl ?_
        refine aw_incn (c := 1) (ls' := [_, _, _, _, _, _]) rfl rfl (by decide) rfl ?_
        refine aw rfl rfl ?_
        exact ih (_, v, pl, br, lo, _) (hI.no hw hl)
    | some j =>
      have hj := hr j rfl
      refine aw rfl rfl ?_
      refine aw_c (v := nI 384) rfl (by decide) ?_
      refine aw_igen rfl (fun c8 => by omega) (fun c8 => ?_)
      refine aw rfl rfl ?_
      refine aw rfl rfl ?_
      refine aw_cv (d1 := 2) (L1 := 43) rfl rfl mg_121 rfl rfl (by decide) (by decide) (Nat.le_of_ble_eq_true rfl) (c_X11_isSquare hM0 hG0 (by omega) hw (fun hl => ?_) (fun hl => ?_))
      · refine aw_ne rfl (fun _ => ?_) (fun c => absurd c (by decide))
        refine aw rfl rfl ?_
        refine aw rfl rfl ?_
        refine aw_cv (d1 := 1) (L1 := 22) rfl rfl mg_121 rfl rfl (by decide) (by decide) (Nat.le_of_ble_eq_true rfl) (c_so hM0 hG0 hl96 hw hl.2.1 hl.2.2.1 ?_)
        refine aw_c (v := nI 6) rfl (by decide) ?_
        refine aw_ine rfl (fun c31 => ?_) (fun c31 => ?_)
        · refine aw rfl rfl ?_
          refine aw_gen rfl ?_
          refine aw rfl rfl ?_
          refine aw rfl rfl ?_
          refine aw rfl rfl ?_
          refine aw_cv (d1 := 2) (L1 := 43) rfl rfl mg_121 rfl rfl (by decide) (by decide) (Nat.le_of_ble_eq_true rfl) (c_X11_canKick hM0 hG0 hl hw (by omega) (fun z => ?_) (fun z => ?_))
          · refine aw_eq rfl (fun c => absurd c (by decide)) (fun _ => ?_)
            refine aw rfl rfl ?_
            refine aw rfl rfl ?_
            refine aw_ist (ls' := [_, _, _, _, _, _]) rfl rfl ?_
            refine aw rfl rfl ?_
            refine aw_getf rfl mg_121 rfl ?_
            refine aw rfl rfl ?_
            refine aw rfl rfl ?_
            refine aw rfl rfl ?_
            refine aw rfl rfl ?_
            refine aw rfl rfl ?_
            refine aw_cv (d1 := 4) (L1 := 107) rfl rfl mg_121 rfl rfl (by decide) (by decide) (Nat.le_of_ble_eq_true rfl) (c_X11_valueOf hM0 hG0 hc hl hw (by omega) (fun v pl br lo => ?_))
            refine aw_iastU rfl mg_160 rfl (by omega) (by decide) (by decide) mu_160 ?_
            refine aw_incn (c := 1) (ls' := [_, _, _, _, _, _]) rfl rfl (by decide) rfl ?_
            refine aw rfl rfl ?_
            exact ih (_, v, pl, br, lo, _) (hI.up hw (fun _ => by rw [en x c31]; show nI _ = nI (va T (lwf W) F l w (if mck T l j = true then j else T.1 3) x); rw [if_pos (mck_iff.mpr z)]))
          · refine aw_eq rfl (fun _ => ?_) (fun c => absurd (by decide) c)
            refine aw rfl rfl ?_
            refine aw_getf rfl mg_121 rfl ?_
            refine aw rfl rfl ?_
            refine aw_getfE rfl mg_121 rfl (congrArg Value.int m1) ?_
            refine aw_ialdE rfl mg_134 rfl (by omega) (by decide) mk ?_
            refine aw_ist (ls' := [_, _, _, _, _, _]) rfl rfl ?_
            refine aw rfl rfl ?_
            refine aw_getf rfl mg_121 rfl ?_
            refine aw rfl rfl ?_
            refine aw rfl rfl ?_
            refine aw rfl rfl ?_
            refine aw rfl rfl ?_
            refine aw rfl rfl ?_
            refine aw_cv (d1 := 4) (L1 := 107) rfl rfl mg_121 rfl rfl (by decide) (by decide) (Nat.le_of_ble_eq_true rfl) (c_X11_valueOf hM0 hG0 hc hl hw (by omega) (fun v pl br lo => ?_))
            refine aw_iastU rfl mg_160 rfl (by omega) (by decide) (by decide) mu_160 ?_
            refine aw_incn (c := 1) (ls' := [_, _, _, _, _, _]) rfl rfl (by decide) rfl ?_
            refine aw rfl rfl ?_
            exact ih (_, v, pl, br, lo, _) (hI.up hw (fun _ => by rw [en x c31]; show nI _ = nI (va T (lwf W) F l w (if mck T l j = true then j else T.1 3) x); rw [if_neg (fun y => z (mck_iff.mp y))]))
        · refine aw rfl rfl ?_
          refine aw_getf rfl mg_121 rfl ?_
          refine aw rfl rfl ?_
          refine aw_c (v := nI 6) rfl (by decide) ?_
          refine aw rfl rfl ?_
          refine aw_muln rfl ?_
          refine aw_iastU rfl mg_160 rfl (by omega) (by decide) (by decide) mu_160 ?_
          refine aw rfl rfl ?_
          refine aw_incn (c := 1) (ls' := [_, _, _, _, _, _]) rfl rfl (by decide) rfl ?_
          refine aw rfl rfl ?_
          exact ih (_, v, pl, br, lo, _) (hI.up hw (fun _ => by rw [eh x c31]))
      · refine aw_ne rfl (fun c => absurd (by decide) c) (fun _ => ?_)
        refine aw rfl rfl ?_
        refine aw_incn (c := 1) (ls' := [_, _, _, _, _, _]) rfl rfl (by decide) rfl ?_
        refine aw rfl rfl ?_
        exact ih (_, v, pl, br, lo, _) (hI.no hw hl)
  · obtain ⟨l5, v, pl, br, lo, ct⟩ := y
    try dsimp only at hI ⊢
    refine aw rfl rfl ?_
    refine aw_c (v := nI 384) rfl (by decide) ?_
    refine aw_igen rfl (fun c8 => ?_) (fun c8 => by omega)
    refine aw_c (v := nI 0) rfl (by decide) ?_
    refine aw_ist (ls' := [_, _, _, _, _, _]) rfl rfl ?_
    refine aw_loop (α := Nat → Int32) (ll := fun i y => [some (.ref 121), some (.int (rI r)), some (.int x), some (.int (nI hv)), some (.int (nI i)), l5]) (hh := fun _ y => mh g k v pl br lo y ct pr pt cm bf bt) (I := fun i y => CU T y (fun l w => lay T (lwf W) F r (fun _ => 6 * hv) l w x) i) (N := 384) (fun i y hi hJ ih => ?_) (fun y hJ => ?_) 0 c (Nat.zero_le _) (fun l w _ h => absurd h (Nat.not_lt_zero _))
    · skip
      obtain ⟨l, w, hw, rfl⟩ := n_4 i
      refine aw rfl rfl ?_
      refine aw_c (v := nI 384) rfl (by decide) ?_
      refine aw_igen rfl (fun c117 => by omega) (fun c117 => ?_)
      refine aw rfl rfl ?_
      refine aw_getf rfl mg_121 rfl ?_
      refine aw rfl rfl ?_
      refine aw rfl rfl ?_
      refine aw_getf rfl mg_121 rfl ?_
      refine aw rfl rfl ?_
      refine aw_iald rfl mg_160 rfl (by omega) (by decide) ?_
      refine aw_iastU rfl mg_159 rfl (by omega) (by decide) (by decide) mu_159 ?_
      refine aw_incn (c := 1) (ls' := [_, _, _, _, _, _]) rfl rfl (by decide) rfl ?_
      refine aw rfl rfl ?_
      exact ih _ (hJ.up hw (fun hl => hI l w hw (by omega) hl))
    · skip
      refine aw rfl rfl ?_
      refine aw_c (v := nI 384) rfl (by decide) ?_
      refine aw_igen rfl (fun c117 => ?_) (fun c117 => by omega)
      refine aw rfl rfl ?_
      refine aw_getf rfl mg_121 rfl ?_
      refine aw_c (v := nI 384) rfl (by decide) ?_
      refine aw_c (v := nI 0) rfl (by decide) ?_
      refine aw_iastU rfl mg_159 rfl (by omega) (by decide) (by decide) mu_159 ?_
      exact aw_vret rfl rfl (q _ _ _ _ _ _ ⟨fun l w hl hw => by have := hl.1; rw [pk_un (by omega)]; exact hJ l w hw (by omega) hl, pk_us⟩)
theorem lay_eq {T : Sd} {LW : LWt} {r : Option Nat} {n t l w : Nat} : lay T LW (Fc T LW r (hm T) n (t + T.1 5)) r (fun _ => 6 * 6 ^ n) l w (nI t) = Fc T LW r (hm T) (n + 1) t l w := by
  show _ = lay T LW _ r (fun l => bif hm T l then 6 ^ (n + 1) else 0) l w (nI t)
  unfold lay
  by_cases h : hm T l = true
  · rw [if_pos h, if_pos h]
    show 6 * 6 ^ n = bif hm T l then 6 ^ (n + 1) else 0
    rw [h, Nat.pow_succ, Nat.mul_comm]
    rfl
  · rw [if_neg h, if_neg h]
theorem c_X11_fillsFrom {Q : Option Value → am_H → Prop} (hM : MR k lv T W) (hG : GS T) {n d t : Nat} {r : Option Nat} (hr : ∀ j, r = some j → j < T.1 3) (hn : n ≤ 10) (hd : d ≤ n) (ht : t < 1000000) (q : ∀ v pl br lo c' ct', CT T c' (Fc T (lwf W) r (hm T) (n - d) (t + d * T.1 5)) → Q none (mh g k v pl br lo c' ct' pr pt cm bf bt)) : AC am_P 7 183 256 [.ref 121, .int (nI n), .int (nI d), .int (rI r), .int (nI t)] (mh g k v pl br lo c ct pr pt cm bf bt) Q := by
  refine AC.of (ls := [_, _, _, _, _, _]) rfl ?_
  have hM0 := hM
  have hG0 := hG
  obtain ⟨m0, m1, mr, mw, mf, mk, mli, mt, ms, msq, moc, mwy, msp, mlw⟩ := hM
  obtain ⟨⟨g0, g0x⟩, ⟨g1, g1x⟩, ⟨g2, g2x⟩, ⟨g3, g3x⟩, g4, ⟨g5, g5x⟩, g6, gsq, goc, gwt, gsp, gfr⟩ := hG
  refine aw_c (v := nI 0) rfl (by decide) ?_
  refine aw_ist (ls' := [_, _, _, _, _, _]) rfl rfl ?_
  refine aw_loop (α := Nat → Int32) (ll := fun i y => [some (.ref 121), some (.int (nI n)), some (.int (nI d)), some (.int (rI r)), some (.int (nI t)), some (.int (nI i))]) (hh := fun _ y => mh g k v pl br lo y ct pr pt cm bf bt) (I := fun i y => CU T y (fun l _ => bif hm T l then 1 else 0) i ∧ (384 < i → y 384 = nI 0)) (N := 385) (fun i y hi hI ih => ?_) (fun y hI => ?_) 0 c (Nat.zero_le _) ⟨fun l w _ h => absurd h (Nat.not_lt_zero _), fun h => absurd h (by omega)⟩
  · skip
    obtain ⟨l, w, hw, rfl⟩ := n_4 i
    have hsq : l < 96 → lieOK T l → k.2.1 24 (32 * lv + 8 * (l / 3 / 8) + l / 3 % 8) = T.2 0 (l / 3) := fun _ h => by rw [msq _ _ h.2.1 h.2.2.1, show l / 3 / 8 * 8 + l / 3 % 8 = l / 3 by omega]
    refine aw rfl rfl ?_
    refine aw_c (v := nI 385) rfl (by decide) ?_
    refine aw_igen rfl (fun c8 => by omega) (fun c8 => ?_)
    refine aw rfl rfl ?_
    refine aw_getf rfl mg_121 rfl ?_
    refine aw rfl rfl ?_
    refine aw rfl rfl ?_
    refine aw rfl rfl ?_
    refine aw_cv (d1 := 2) (L1 := 43) rfl rfl mg_121 rfl rfl (by decide) (by decide) (Nat.le_of_ble_eq_true rfl) (c_X11_isHome m1 m0 (by omega) hw (fun z1 z2 => ?_) (fun z => ?_) (by omega))
    · refine aw_eq rfl (fun c => absurd c (by decide)) (fun _ => ?_)
      refine aw rfl rfl ?_
      refine aw rfl rfl ?_
      refine aw_cv (d1 := 2) (L1 := 43) rfl rfl mg_121 rfl rfl (by decide) (by decide) (Nat.le_of_ble_eq_true rfl) (c_X11_isSquare hM0 hG0 (by omega) hw (fun hl => ?_) (fun hn => ?_))
      · refine aw_eq rfl (fun c => absurd c (by decide)) (fun _ => ?_)
        refine aw_c (v := nI 1) rfl (by decide) ?_
        refine aw rfl rfl ?_
        refine aw_iastU rfl mg_159 rfl (by omega) (by decide) (by decide) mu_159 ?_
        refine aw_incn (c := 1) (ls' := [_, _, _, _, _, _]) rfl rfl (by decide) rfl ?_
        refine aw rfl rfl ?_
        exact ih _ ⟨hI.1.up hw (fun hl => by have e : hm T l = true := decide_eq_true ((hsq z1 hl).symm.trans z2); rw [e]; rfl), fun h => by
          have e : 4 * l + w = 384 := by omega
          rw [e]
          exact absurd e (by omega)⟩
      · refine aw_eq rfl (fun _ => ?_) (fun c => absurd (by decide) c)
        refine aw_c (v := nI 0) rfl (by decide) ?_
        refine aw_iastU rfl mg_159 rfl (by omega) (by decide) (by decide) mu_159 ?_
        refine aw_incn (c := 1) (ls' := [_, _, _, _, _, _]) rfl rfl (by decide) rfl ?_
        refine aw rfl rfl ?_
        exact ih _ ⟨hI.1.up hw (fun hl => absurd hl hn), fun h => by
          have e : 4 * l + w = 384 := by omega
          rw [e]
          exact pk_us⟩
    · refine aw_eq rfl (fun _ => ?_) (fun c => absurd (by decide) c)
      refine aw_c (v := nI 0) rfl (by decide) ?_
      refine aw_iastU rfl mg_159 rfl (by omega) (by decide) (by decide) mu_159 ?_
      refine aw_incn (c := 1) (ls' := [_, _, _, _, _, _]) rfl rfl (by decide) rfl ?_
      refine aw rfl rfl ?_
      exact ih _ ⟨hI.1.up hw (fun hl => by have e : hm T l = false := decide_eq_false (fun y => z hl.1 ((hsq hl.1 hl).trans y)); rw [e]; rfl), fun h => by
        have e : 4 * l + w = 384 := by omega
        rw [e]
        exact pk_us⟩
  · skip
    have hI0 : CT T y (Fc T (lwf W) r (hm T) 0 (t + n * T.1 5)) := ⟨fun l w hl hw => hI.1 l w hw (by have := hl.1; omega) hl, hI.2 (by omega)⟩
    refine aw rfl rfl ?_
    refine aw_c (v := nI 385) rfl (by decide) ?_
    refine aw_igen rfl (fun c8 => ?_) (fun c8 => by omega)
    refine aw rfl rfl ?_
    refine aw_c (v := nI 1) rfl (by decide) ?_
    refine aw rfl rfl ?_
    refine aw_ist (ls' := [_, _, _, _, _, _]) rfl rfl ?_
    skip
    have key : ∀ m (l5 : Int32) v pl br lo c ct, m ≤ n - d → l5 = nI n - nI 1 - nI m → CT T c (Fc T (lwf W) r (hm T) m (t + (n - m) * T.1 5)) → AW am_P 7 183 256 52 [some (.ref 121), some (.int (nI n)), some (.int (nI d)), some (.int (rI r)), some (.int (nI t)), some (.int l5)] [] (mh g k v pl br lo c ct pr pt cm bf bt) Q := by
      intro m
      generalize hj : n - d - m = j
      induction j generalizing m with
      | zero =>
        intro l5 v pl br lo c ct hmx he hc
        have em : m = n - d := by omega
        subst em
        have e5 : l5 < nI d := by
          rw [he]
          by_cases h0 : d = 0
          · subst h0
            show nI n - nI 1 - nI n < nI 0
            have : ∀ y : Fin 11, nI y.val - nI 1 - nI y.val < nI 0 := by decide
            exact this ⟨n, by omega⟩
          · rw [pk_sub (by omega), pk_sub (by omega), show n - 1 - (n - d) = d - 1 by omega]
            exact nI_lt (by omega) (by omega)
        refine aw rfl rfl ?_
        refine aw rfl rfl ?_
        refine aw_ilt rfl (fun c55 => ?_) (fun c55 => absurd e5 c55)
        exact aw_vret rfl rfl (by rw [show n - (n - d) = d by omega] at hc; exact q _ _ _ _ _ _ hc)
      | succ j ih =>
        intro l5 v pl br lo c ct hmx he hc
        have hmn : m + 1 ≤ n - d := by omega
        rw [pk_sub (by omega), pk_sub (by omega)] at he
        subst he
        have hf6 : 6 ^ m ≤ 6 ^ 9 := Nat.pow_le_pow_right (by decide) (by omega)
        have hFb : ∀ l w, Fc T (lwf W) r (hm T) m (t + (n - m) * T.1 5) l w < 300000000 := fun l w => Nat.lt_of_le_of_lt (Fc_le hG0 hr m _ l w) (Nat.lt_of_le_of_lt hf6 (by decide))
        refine aw rfl rfl ?_
        refine aw rfl rfl ?_
        refine aw_iltn rfl (fun c55 => by omega) (fun c55 => ?_)
        refine aw rfl rfl ?_
        refine aw rfl rfl ?_
        refine aw rfl rfl ?_
        refine aw rfl rfl ?_
        refine aw rfl rfl ?_
        refine aw_getf rfl mg_121 rfl ?_
        refine aw rfl rfl ?_
        refine aw_getfE rfl mg_121 rfl (congrArg Value.int m1) ?_
        refine aw_ialdE rfl mg_143 rfl (by omega) (by decide) mt ?_
        refine aw_muln rfl ?_
        refine aw_addn rfl ?_
        refine aw rfl rfl ?_
        refine aw_c (v := nI 1) rfl (by decide) ?_
        refine aw_subn rfl (by omega) ?_
        refine aw rfl rfl ?_
        refine aw_subn rfl (by omega) ?_
        refine aw_cs (d1 := 0) (L1 := 0) rfl rfl (by decide) (by decide) (Nat.le_of_ble_eq_true rfl) (c_sixes (by omega) ?_)
        refine aw_cv (d1 := 6) (L1 := 158) rfl rfl mg_121 rfl rfl (by decide) (by decide) (Nat.le_of_ble_eq_true rfl) (c_X11_earlier hM0 hG0 hr hc hFb (fun v pl br lo c ct hc2 => ?_))
        refine aw_inc (c := -1) (ls' := [_, _, _, _, _, _]) rfl rfl (by decide) rfl ?_
        refine aw rfl rfl ?_
        refine ih (m + 1) (by omega) _ _ _ _ _ _ _ hmn ?_ ?_
        · rw [pk_sub (show 1 ≤ n by omega)]
          by_cases h0 : n - 1 - m = 0
          · rw [h0, show n - 1 = m by omega]
            have : ∀ y : Fin 11, nI 0 + -1 = nI y.val - nI (y.val + 1) := by decide
            exact this ⟨m, by omega⟩
          · rw [pk_sub (by omega), show n - 1 - m = n - 1 - (m + 1) + 1 by omega, ← nI_add]
            generalize nI (n - 1 - (m + 1)) = y
            rw [Int32.add_assoc, show nI 1 + (-1 : Int32) = 0 by decide, Int32.add_zero]
        · refine ⟨fun l w hl hw => ?_, hc2.2⟩
          rw [hc2.1 l w hl hw, show n - 1 - (n - 1 - m) = m by omega]
          have e2 : t + (n - m) * T.1 5 = t + (n - 1 - m) * T.1 5 + T.1 5 := by
            rw [show n - m = n - 1 - m + 1 by omega, Nat.add_mul]
            omega
          rw [e2]
          refine congrArg nI (lay_eq.trans ?_)
          rw [show n - (m + 1) = n - 1 - m by omega]
    exact key 0 _ v pl br lo y ct (Nat.zero_le _) (by show nI n - nI 1 = nI n - nI 1 - 0; exact (Int32.sub_zero _).symm) hI0
theorem c_X11_fills {Q : Option Value → am_H → Prop} (hM : MR k lv T W) (hG : GS T) {n t : Nat} (hn : n ≤ 10) (ht : t < 1000000) (h5 : k.2.1 53 5 = nI t) (q : ∀ v pl br lo c' ct', CT T c' (Fc T (lwf W) none (hm T) n t) → Q none (mh g k v pl br lo c' ct' pr pt cm bf bt)) : AC am_P 8 208 255 [.ref 121, .int (nI n)] (mh g k v pl br lo c ct pr pt cm bf bt) Q := by
  refine AC.of (ls := [_, _]) rfl ?_
  refine aw rfl rfl ?_
  refine aw rfl rfl ?_
  refine aw_c (v := nI 0) rfl (by decide) ?_
  refine aw_c (v := -1) rfl (by decide) ?_
  refine aw rfl rfl ?_
  refine aw_getf rfl mg_121 rfl ?_
  refine aw_c (v := nI 5) rfl (by decide) ?_
  refine aw_ialdE rfl mg_157 rfl (by omega) (by decide) h5 ?_
  refine aw_cv (d1 := 7) (L1 := 183) rfl rfl mg_121 rfl rfl (by decide) (by decide) (Nat.le_of_ble_eq_true rfl) (c_X11_fillsFrom (r := none) (d := 0) hM hG (fun j z => nomatch z) hn (Nat.zero_le _) ht (fun v pl br lo c' ct' h => ?_))
  exact aw_vret rfl rfl (q _ _ _ _ _ _ (by rw [show t + 0 * T.1 5 = t by omega] at h; exact h))
end M1
