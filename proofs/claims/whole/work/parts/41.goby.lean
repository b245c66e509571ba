/-! ===== the reference: goBy, trap ===== -/
theorem wl_lt {T : Sd} {LW : LWt} {l t w : Nat} : ∀ i u, wl T LW l t w i = some u → u ≤ w := by
  intro i
  induction i with
  | zero => intro u h; cases h; exact Nat.le_refl _
  | succ i ih =>
    intro u h
    rw [wl] at h
    cases e : wl T LW l t w i with
    | none => rw [e] at h; cases h
    | some z =>
      rw [e] at h
      have := ih z e
      unfold wl1 at h
      cases hb : decide (n_land T LW l 24 (nI (t + i * T.1 5)) = -1) with
      | true =>
        rw [hb] at h
        dsimp only [cond_true] at h
        by_cases h0 : z = 0
        · rw [if_pos h0] at h; cases h
        · rw [if_neg h0] at h; cases h; omega
      | false => rw [hb] at h; cases h; exact this
theorem wlS_lsg {l u : Nat} : wlS l (if u = 0 then none else some (u - 1)) = lsg l u := by
  unfold lsg
  by_cases h0 : u = 0
  · rw [if_pos h0, if_pos h0]; rfl
  · rw [if_neg h0, if_neg h0]; rfl
section M1
variable {g : am_H} {k : Mk} {v pl : Nat → Int32} {br lo : Int32} {c ct pr pt cm bf bt : Nat → Int32}
variable {lv : Nat} {T : Sd} {W : Nat → Lw}
variable {S : Nat → Nat}
theorem c_X11_goBy {Q : Option Value → am_H → Prop} (hM : MR k lv T W) (hG : GS T) (hN : NR T (k.2.1 53) S) (hS : SG T S) {x : Int32} (q : ∀ v pl br lo c ct, Q (some (.int (a_goBy T (lwf W) S x))) (mh g k v pl br lo c ct pr pt cm bf bt)) : AC am_P 8 208 275 [.ref 121, .int x] (mh g k v pl br lo c ct pr pt cm bf bt) Q := by
  refine AC.of (ls := [_, _, _, _, _, _, _]) rfl ?_
  have hM0 := hM
  have hG0 := hG
  obtain ⟨m0, m1, mr, mw, mf, mk, mli, mt, ms, msq, moc, mwy, msp, mlw⟩ := hM
  obtain ⟨⟨g0, g0x⟩, ⟨g1, g1x⟩, ⟨g2, g2x⟩, ⟨g3, g3x⟩, g4, ⟨g5, g5x⟩, g6, gsq, goc, gwt, gsp, gfr⟩ := hG
  have hN0 := hN
  have hS0 := hS
  obtain ⟨n0, n1, n2, n3, n4, n5, n6, n7, n8⟩ := hN
  obtain ⟨s0, s1, s2, s3, s4, s5, s6⟩ := hS
  have hl96 := s0.1
  unfold a_goBy at q
  refine aw rfl rfl ?_
  refine aw_cs (d1 := 1) (L1 := 22) rfl rfl (by decide) (by decide) (Nat.le_of_ble_eq_true rfl) (c_X11_isLong (fun n hn e => ?_) (fun p => ?_))
  · refine aw_ne rfl (fun _ => ?_) (fun c => absurd c (by decide))
    subst e
    rw [sp_in (Nat.zero_le _) hn (by decide)] at q
    have h6 := p6_le hn
    have hF : ∀ l w, Fc T (lwf W) none (hm T) n (S 4 * T.1 5) l w ≤ 6 ^ n := Fc_le (r := none) hG0 (fun j z => nomatch z) _ _
    have hFx := hF (S 0 * 3 + S 1) (S 2)
    have h6p := p6_pos n
    refine aw rfl rfl ?_
    refine aw_cv (d1 := 3) (L1 := 64) rfl rfl mg_121 rfl rfl (by decide) (by decide) (Nat.le_of_ble_eq_true rfl) (c_X11_isOver hM0 hG0 hN0 hS0 (fun z => ?_) (fun z => ?_))
    · refine aw_eq rfl (fun c => absurd c (by decide)) (fun _ => ?_)
      rw [if_neg z] at q
      refine aw_c (v := -2) rfl (by decide) ?_
      exact aw_iret rfl rfl (q _ _ _ _ _ _)
    · refine aw_eq rfl (fun _ => ?_) (fun c => absurd (by decide) c)
      rw [if_pos z] at q
      refine aw rfl rfl ?_
      refine aw_cv (d1 := 1) (L1 := 23) rfl rfl mg_121 rfl rfl (by decide) (by decide) (Nat.le_of_ble_eq_true rfl) (c_X11_stateNow hM0 hG0 hN0 hS0 (fun y => absurd y (by omega)) (fun _ => ?_))
      refine aw_ist (ls' := [_, _, _, _, _, _, _]) rfl rfl ?_
      refine aw_c (v := nI 0) rfl (by decide) ?_
      refine aw_ist (ls' := [_, _, _, _, _, _, _]) rfl rfl ?_
      refine aw_c (v := -1) rfl (by decide) ?_
      refine aw_ist (ls' := [_, _, _, _, _, _, _]) rfl rfl ?_
      refine aw_c (v := nI 0) rfl (by decide) ?_
      refine aw_ist (ls' := [_, _, _, _, _, _, _]) rfl rfl ?_
      refine aw_loop (α := ((Nat → Int32) × (Nat → Int32) × Int32 × Int32 × (Nat → Int32) × (Nat → Int32)) × Option Value) (ll := fun i y => [some (.ref 121), some (.int (nI n)), some (.int (nI (wlS (S 0 * 3 + S 1) (wl T (lwf W) (S 0 * 3 + S 1) (S 4 * T.1 5) (S 2) i)))), some (.int (nI (bsA (bs (gbF T (lwf W) n (S 0 * 3 + S 1) (S 4 * T.1 5) (S 2)) tt i)))), some (.int (bs2 (bs (gbF T (lwf W) n (S 0 * 3 + S 1) (S 4 * T.1 5) (S 2)) tt i))), some (.int (nI i)), y.2]) (hh := fun i y => (mh g k y.1.1 y.1.2.1 y.1.2.2.1 y.1.2.2.2.1 y.1.2.2.2.2.1 y.1.2.2.2.2.2 pr pt cm bf bt)) (I := fun i y => True) (N := 6) (fun i y hi hI ih => ?_) (fun y hI => ?_) 0 ((v, pl, br, lo, c, ct), none) (Nat.zero_le _) trivial
      · skip
        obtain ⟨⟨v, pl, br, lo, c, ct⟩, l6⟩ := y
        dsimp only
        have ht1 := Nat.mul_le_mul s3 g5x
        have ht2 : i * T.1 5 ≤ 5 * 99 := Nat.mul_le_mul (by omega) g5x
        have hb : ∀ j, (gbF T (lwf W) n (S 0 * 3 + S 1) (S 4 * T.1 5) (S 2)) j < 2147483648 := fun j => by
          unfold gbF
          cases wl T (lwf W) (S 0 * 3 + S 1) (S 4 * T.1 5) (S 2) j with
          | none => exact Nat.lt_trans (Nat.zero_lt_one) (by decide)
          | some u => have := Fc_le (LW := lwf W) (gl := hm T) (r := none) hG0 (fun j z => nomatch z) n (S 4 * T.1 5 + j * T.1 5) (S 0 * 3 + S 1) u; show Fc _ _ _ _ _ _ _ _ < _; omega
        cases ew : (wl T (lwf W) (S 0 * 3 + S 1) (S 4 * T.1 5) (S 2) i) with
        | none =>
          show AW am_P _ _ _ _ [_, _, some (.int (nI 384)), _, _, _, _] _ _ _
          have eg : (gbF T (lwf W) n (S 0 * 3 + S 1) (S 4 * T.1 5) (S 2)) i = 0 := by unfold gbF; rw [ew]; rfl
          have ew2 : (wl T (lwf W) (S 0 * 3 + S 1) (S 4 * T.1 5) (S 2) (i + 1)) = none := by rw [wl, ew]; rfl
          refine aw rfl rfl ?_
          refine aw_c (v := nI 5) rfl (by decide) ?_
          refine aw_igtn rfl (fun c35 => by omega) (fun c35 => ?_)
          refine aw rfl rfl ?_
          refine aw_getf rfl mg_121 rfl ?_
          refine aw_c (v := nI 5) rfl (by decide) ?_
          refine aw_ialdE rfl mg_157 rfl (by omega) (by decide) n5 ?_
          refine aw rfl rfl ?_
          refine aw rfl rfl ?_
          refine aw_getf rfl mg_121 rfl ?_
          refine aw rfl rfl ?_
          refine aw_getfE rfl mg_121 rfl (congrArg Value.int m1) ?_
          refine aw_ialdE rfl mg_143 rfl (by omega) (by decide) mt ?_
          refine aw_muln rfl ?_
          refine aw_addn rfl ?_
          refine aw_ist (ls' := [_, _, _, _, _, _, _]) rfl rfl ?_
          refine aw rfl rfl ?_
          refine aw rfl rfl ?_
          refine aw_c (v := nI 0) rfl (by decide) ?_
          refine aw_c (v := -1) rfl (by decide) ?_
          refine aw rfl rfl ?_
          refine aw_cv (d1 := 7) (L1 := 183) rfl rfl mg_121 rfl rfl (by decide) (by decide) (Nat.le_of_ble_eq_true rfl) (c_X11_fillsFrom (r := none) (d := 0) hM0 hG0 (fun j z => nomatch z) hn (Nat.zero_le _) (by omega) (fun v pl br lo c ct hc => ?_))
          rw [show S 4 * T.1 5 + i * T.1 5 + 0 * T.1 5 = S 4 * T.1 5 + i * T.1 5 by omega, Nat.sub_zero] at hc
          refine aw rfl rfl ?_
          refine aw_getf rfl mg_121 rfl ?_
          refine aw rfl rfl ?_
          refine aw_ialdE rfl mg_159 rfl (by omega) (by decide) hc.2 ?_
          refine aw rfl rfl ?_
          refine aw_ile rfl (fun c76 => ?_) (fun c76 => ?_)
          · refine aw rfl rfl ?_
            refine aw_c (v := nI 384) rfl (by decide) ?_
            refine aw_ieq rfl (fun _ => ?_) (fun c => absurd (by decide) c)
            refine aw_incn (c := 1) (ls' := [_, _, _, _, _, _, _]) rfl rfl (by decide) rfl ?_
            refine aw rfl rfl ?_
            have e5 : (bs (gbF T (lwf W) n (S 0 * 3 + S 1) (S 4 * T.1 5) (S 2)) tt (i + 1)) = (bs (gbF T (lwf W) n (S 0 * 3 + S 1) (S 4 * T.1 5) (S 2)) tt i) := bs_no hb rfl (by rw [eg]; exact c76)
            have ih := ih ((v, pl, br, lo, c, ct), some (.int (nI (S 4 * T.1 5 + i * T.1 5)))) trivial
            rw [e5, ew2] at ih
            exact ih
          · refine aw rfl rfl ?_
            refine aw_getf rfl mg_121 rfl ?_
            refine aw rfl rfl ?_
            refine aw_ialdE rfl mg_159 rfl (by omega) (by decide) hc.2 ?_
            refine aw_ist (ls' := [_, _, _, _, _, _, _]) rfl rfl ?_
            refine aw rfl rfl ?_
            refine aw_ist (ls' := [_, _, _, _, _, _, _]) rfl rfl ?_
            refine aw rfl rfl ?_
            refine aw_c (v := nI 384) rfl (by decide) ?_
            refine aw_ieq rfl (fun _ => ?_) (fun c => absurd (by decide) c)
            refine aw_incn (c := 1) (ls' := [_, _, _, _, _, _, _]) rfl rfl (by decide) rfl ?_
            refine aw rfl rfl ?_
            have e5 : (bs (gbF T (lwf W) n (S 0 * 3 + S 1) (S 4 * T.1 5) (S 2)) tt (i + 1)) = some (i, 0) := by have := bs_yes (cn := tt) hb rfl (by rw [eg]; exact c76); rw [eg] at this; exact this
            have ih := ih ((v, pl, br, lo, c, ct), some (.int (nI (S 4 * T.1 5 + i * T.1 5)))) trivial
            rw [e5, ew2] at ih
            exact ih
        | some u =>
          show AW am_P _ _ _ _ [_, _, some (.int (nI (4 * (S 0 * 3 + S 1) + u))), _, _, _, _] _ _ _
          have hu := wl_lt _ _ ew
          have eg : (gbF T (lwf W) n (S 0 * 3 + S 1) (S 4 * T.1 5) (S 2)) i = Fc T (lwf W) none (hm T) n (S 4 * T.1 5 + i * T.1 5) (S 0 * 3 + S 1) u := by unfold gbF; rw [ew]; rfl
          have hFu := Fc_le (LW := lwf W) (gl := hm T) (r := none) hG0 (fun j z => nomatch z) n (S 4 * T.1 5 + i * T.1 5) (S 0 * 3 + S 1) u
          refine aw rfl rfl ?_
          refine aw_c (v := nI 5) rfl (by decide) ?_
          refine aw_igtn rfl (fun c35 => by omega) (fun c35 => ?_)
          refine aw rfl rfl ?_
          refine aw_getf rfl mg_121 rfl ?_
          refine aw_c (v := nI 5) rfl (by decide) ?_
          refine aw_ialdE rfl mg_157 rfl (by omega) (by decide) n5 ?_
          refine aw rfl rfl ?_
          refine aw rfl rfl ?_
          refine aw_getf rfl mg_121 rfl ?_
          refine aw rfl rfl ?_
          refine aw_getfE rfl mg_121 rfl (congrArg Value.int m1) ?_
          refine aw_ialdE rfl mg_143 rfl (by omega) (by decide) mt ?_
          refine aw_muln rfl ?_
          refine aw_addn rfl ?_
          refine aw_ist (ls' := [_, _, _, _, _, _, _]) rfl rfl ?_
          refine aw rfl rfl ?_
          refine aw rfl rfl ?_
          refine aw_c (v := nI 0) rfl (by decide) ?_
          refine aw_c (v := -1) rfl (by decide) ?_
          refine aw rfl rfl ?_
          refine aw_cv (d1 := 7) (L1 := 183) rfl rfl mg_121 rfl rfl (by decide) (by decide) (Nat.le_of_ble_eq_true rfl) (c_X11_fillsFrom (r := none) (d := 0) hM0 hG0 (fun j z => nomatch z) hn (Nat.zero_le _) (by omega) (fun v pl br lo c ct hc => ?_))
          rw [show S 4 * T.1 5 + i * T.1 5 + 0 * T.1 5 = S 4 * T.1 5 + i * T.1 5 by omega, Nat.sub_zero] at hc
          refine aw rfl rfl ?_
          refine aw_getf rfl mg_121 rfl ?_
          refine aw rfl rfl ?_
          refine aw_ialdE rfl mg_159 rfl (by omega) (by decide) (hc.1 _ _ s0 (by omega)) ?_
          refine aw rfl rfl ?_
          refine aw_ile rfl (fun c76 => ?_) (fun c76 => ?_)
          · refine aw rfl rfl ?_
            refine aw_c (v := nI 384) rfl (by decide) ?_
            refine aw_ieqn rfl (fun c94 => by omega) (fun c94 => ?_)
            refine aw rfl rfl ?_
            refine aw rfl rfl ?_
            refine aw rfl rfl ?_
            refine aw_cv (d1 := 3) (L1 := 75) rfl rfl mg_121 rfl rfl (by decide) (by decide) (Nat.le_of_ble_eq_true rfl) (c_X11_waited hM0 hG0 s0 (by omega) (fun hw v pl br => ?_) (fun hw v pl br => ?_))
            · refine aw_ist (ls' := [_, _, _, _, _, _, _]) rfl rfl ?_
              refine aw_incn (c := 1) (ls' := [_, _, _, _, _, _, _]) rfl rfl (by decide) rfl ?_
              refine aw rfl rfl ?_
              have e5 : (bs (gbF T (lwf W) n (S 0 * 3 + S 1) (S 4 * T.1 5) (S 2)) tt (i + 1)) = (bs (gbF T (lwf W) n (S 0 * 3 + S 1) (S 4 * T.1 5) (S 2)) tt i) := bs_no hb rfl (by rw [eg]; exact c76)
              have ew2 : (wl T (lwf W) (S 0 * 3 + S 1) (S 4 * T.1 5) (S 2) (i + 1)) = (if u = 0 then none else some (u - 1)) := by rw [wl, ew, decide_eq_true hw]; rfl
              have ih := ih ((v, pl, br, lo, c, ct), some (.int (nI (S 4 * T.1 5 + i * T.1 5)))) trivial
              rw [e5, ew2] at ih
              rw [wlS_lsg] at ih
              exact ih
            · refine aw_ist (ls' := [_, _, _, _, _, _, _]) rfl rfl ?_
              refine aw_incn (c := 1) (ls' := [_, _, _, _, _, _, _]) rfl rfl (by decide) rfl ?_
              refine aw rfl rfl ?_
              have e5 : (bs (gbF T (lwf W) n (S 0 * 3 + S 1) (S 4 * T.1 5) (S 2)) tt (i + 1)) = (bs (gbF T (lwf W) n (S 0 * 3 + S 1) (S 4 * T.1 5) (S 2)) tt i) := bs_no hb rfl (by rw [eg]; exact c76)
              have ew2 : (wl T (lwf W) (S 0 * 3 + S 1) (S 4 * T.1 5) (S 2) (i + 1)) = some u := by rw [wl, ew, decide_eq_false (fun y => n_m1 (by omega) (hw.symm.trans y))]; rfl
              have ih := ih ((v, pl, br, lo, c, ct), some (.int (nI (S 4 * T.1 5 + i * T.1 5)))) trivial
              rw [e5, ew2] at ih
              exact ih
          · refine aw rfl rfl ?_
            refine aw_getf rfl mg_121 rfl ?_
            refine aw rfl rfl ?_
            refine aw_ialdE rfl mg_159 rfl (by omega) (by decide) (hc.1 _ _ s0 (by omega)) ?_
            refine aw_ist (ls' := [_, _, _, _, _, _, _]) rfl rfl ?_
            refine aw rfl rfl ?_
            refine aw_ist (ls' := [_, _, _, _, _, _, _]) rfl rfl ?_
            refine aw rfl rfl ?_
            refine aw_c (v := nI 384) rfl (by decide) ?_
            refine aw_ieqn rfl (fun c94 => by omega) (fun c94 => ?_)
            refine aw rfl rfl ?_
            refine aw rfl rfl ?_
            refine aw rfl rfl ?_
            refine aw_cv (d1 := 3) (L1 := 75) rfl rfl mg_121 rfl rfl (by decide) (by decide) (Nat.le_of_ble_eq_true rfl) (c_X11_waited hM0 hG0 s0 (by omega) (fun hw v pl br => ?_) (fun hw v pl br => ?_))
            · refine aw_ist (ls' := [_, _, _, _, _, _, _]) rfl rfl ?_
              refine aw_incn (c := 1) (ls' := [_, _, _, _, _, _, _]) rfl rfl (by decide) rfl ?_
              refine aw rfl rfl ?_
              have e5 : (bs (gbF T (lwf W) n (S 0 * 3 + S 1) (S 4 * T.1 5) (S 2)) tt (i + 1)) = some (i, Fc T (lwf W) none (hm T) n (S 4 * T.1 5 + i * T.1 5) (S 0 * 3 + S 1) u) := by have := bs_yes (cn := tt) hb rfl (by rw [eg]; exact c76); rw [eg] at this; exact this
              have ew2 : (wl T (lwf W) (S 0 * 3 + S 1) (S 4 * T.1 5) (S 2) (i + 1)) = (if u = 0 then none else some (u - 1)) := by rw [wl, ew, decide_eq_true hw]; rfl
              have ih := ih ((v, pl, br, lo, c, ct), some (.int (nI (S 4 * T.1 5 + i * T.1 5)))) trivial
              rw [e5, ew2] at ih
              rw [wlS_lsg] at ih
              exact ih
            · refine aw_ist (ls' := [_, _, _, _, _, _, _]) rfl rfl ?_
              refine aw_incn (c := 1) (ls' := [_, _, _, _, _, _, _]) rfl rfl (by decide) rfl ?_
              refine aw rfl rfl ?_
              have e5 : (bs (gbF T (lwf W) n (S 0 * 3 + S 1) (S 4 * T.1 5) (S 2)) tt (i + 1)) = some (i, Fc T (lwf W) none (hm T) n (S 4 * T.1 5 + i * T.1 5) (S 0 * 3 + S 1) u) := by have := bs_yes (cn := tt) hb rfl (by rw [eg]; exact c76); rw [eg] at this; exact this
              have ew2 : (wl T (lwf W) (S 0 * 3 + S 1) (S 4 * T.1 5) (S 2) (i + 1)) = some u := by rw [wl, ew, decide_eq_false (fun y => n_m1 (by omega) (hw.symm.trans y))]; rfl
              have ih := ih ((v, pl, br, lo, c, ct), some (.int (nI (S 4 * T.1 5 + i * T.1 5)))) trivial
              rw [e5, ew2] at ih
              exact ih
      · skip
        refine aw rfl rfl ?_
        refine aw_c (v := nI 5) rfl (by decide) ?_
        refine aw_igt rfl (fun _ => ?_) (fun c => absurd (by decide) c)
        refine aw rfl rfl ?_
        exact aw_iret rfl rfl (q _ _ _ _ _ _)
  · refine aw_ne rfl (fun c => absurd (by decide) c) (fun _ => ?_)
    refine aw_c (v := -1) rfl (by decide) ?_
    exact aw_iret rfl rfl (by rw [sp_out p] at q; exact q _ _ _ _ _ _)
theorem c_X11_trap {Q : Option Value → am_H → Prop} (hM : MR k lv T W) (hG : GS T) (hN : NR T (k.2.1 53) S) (hS : SG T S) {x : Int32} (q : ∀ v pl br lo c ct, Q (some (.int (a_trap T (lwf W) S x))) (mh g k v pl br lo c ct pr pt cm bf bt)) : AC am_P 9 229 277 [.ref 121, .int x] (mh g k v pl br lo c ct pr pt cm bf bt) Q := by
  refine AC.of (ls := [_, _, _, _, _, _, _, _]) rfl ?_
  have hM0 := hM
  have hG0 := hG
  obtain ⟨m0, m1, mr, mw, mf, mk, mli, mt, ms, msq, moc, mwy, msp, mlw⟩ := hM
  obtain ⟨⟨g0, g0x⟩, ⟨g1, g1x⟩, ⟨g2, g2x⟩, ⟨g3, g3x⟩, g4, ⟨g5, g5x⟩, g6, gsq, goc, gwt, gsp, gfr⟩ := hG
  have hN0 := hN
  have hS0 := hS
  obtain ⟨n0, n1, n2, n3, n4, n5, n6, n7, n8⟩ := hN
  obtain ⟨s0, s1, s2, s3, s4, s5, s6⟩ := hS
  have hl96 := s0.1
  unfold a_trap at q
  refine aw rfl rfl ?_
  refine aw_cs (d1 := 1) (L1 := 22) rfl rfl (by decide) (by decide) (Nat.le_of_ble_eq_true rfl) (c_X11_isLong (fun n hn e => ?_) (fun p => ?_))
  · refine aw_ne rfl (fun _ => ?_) (fun c => absurd c (by decide))
    subst e
    rw [sp_in (Nat.zero_le _) hn (by decide)] at q
    have h6 := p6_le hn
    have hF : ∀ l w, Fc T (lwf W) none (hm T) n (S 4 * T.1 5) l w ≤ 6 ^ n := Fc_le (r := none) hG0 (fun j z => nomatch z) _ _
    have hFx := hF (S 0 * 3 + S 1) (S 2)
    have h6p := p6_pos n
    refine aw rfl rfl ?_
    refine aw rfl rfl ?_
    refine aw_cv (d1 := 8) (L1 := 208) rfl rfl mg_121 rfl rfl (by decide) (by decide) (Nat.le_of_ble_eq_true rfl) (c_X11_fills hM0 hG0 hn (by have := Nat.mul_le_mul s3 g5x; omega) n5 (fun v pl br lo c ct hc => ?_))
    refine aw_c (v := nI 0) rfl (by decide) ?_
    refine aw_ist (ls' := [_, _, _, _, _, _, _, _]) rfl rfl ?_
    refine aw_c (v := nI 0) rfl (by decide) ?_
    refine aw_ist (ls' := [_, _, _, _, _, _, _, _]) rfl rfl ?_
    refine aw_loop (α := Option Value × Option Value × Option Value × Option Value) (ll := fun i y => [some (.ref 121), some (.int (nI n)), some (.int (nI (ctN (trp T (Fc T (lwf W) none (hm T) n (S 4 * T.1 5)) (S 2)) (i * 8)))), some (.int (nI i)), y.1, y.2.1, y.2.2.1, y.2.2.2]) (hh := fun i y => (mh g k v pl br lo c ct pr pt cm bf bt)) (I := fun i y => True) (N := T.1 1) (fun i y hi hI ihi => ?_) (fun y hI => ?_) 0 (none, none, none, none) (Nat.zero_le _) trivial
    · skip
      obtain ⟨y1, y2, y3, y4⟩ := y
      dsimp only
      refine aw rfl rfl ?_
      refine aw rfl rfl ?_
      refine aw_getf rfl mg_121 rfl ?_
      refine aw rfl rfl ?_
      refine aw_getfE rfl mg_121 rfl (congrArg Value.int m1) ?_
      refine aw_ialdE rfl mg_130 rfl (by omega) (by decide) mr ?_
      refine aw_igen rfl (fun c28 => by omega) (fun c28 => ?_)
      refine aw_c (v := nI 0) rfl (by decide) ?_
      refine aw_ist (ls' := [_, _, _, _, _, _, _, _]) rfl rfl ?_
      rw [show i * 8 = i * 8 + 0 by rfl]
      refine aw_loop (α := Option Value × Option Value × Option Value) (ll := fun j y => [some (.ref 121), some (.int (nI n)), some (.int (nI (ctN (trp T (Fc T (lwf W) none (hm T) n (S 4 * T.1 5)) (S 2)) (i * 8 + j)))), some (.int (nI i)), some (.int (nI j)), y.1, y.2.1, y.2.2]) (hh := fun j y => (mh g k v pl br lo c ct pr pt cm bf bt)) (I := fun j y => True) (N := T.1 0) (fun j y hj hIj ihj => ?_) (fun y hI => ?_) 0 (y2, y3, y4) (Nat.zero_le _) trivial
      · skip
        obtain ⟨y1, y2, y3⟩ := y
        dsimp only
        have hij : i * 8 + j < 32 := by omega
        have hct := ctN_le (P := (trp T (Fc T (lwf W) none (hm T) n (S 4 * T.1 5)) (S 2))) (i * 8 + j)
        refine aw rfl rfl ?_
        refine aw rfl rfl ?_
        refine aw_getf rfl mg_121 rfl ?_
        refine aw rfl rfl ?_
        refine aw_getfE rfl mg_121 rfl (congrArg Value.int m1) ?_
        refine aw_ialdE rfl mg_131 rfl (by omega) (by decide) mw ?_
        refine aw_igen rfl (fun c45 => by omega) (fun c45 => ?_)
        refine aw rfl rfl ?_
        refine aw rfl rfl ?_
        refine aw_c (v := nI 0) rfl (by decide) ?_
        refine aw rfl rfl ?_
        refine aw_getf rfl mg_121 rfl ?_
        refine aw_c (v := nI 3) rfl (by decide) ?_
        refine aw_ialdE rfl mg_157 rfl (by omega) (by decide) n3 ?_
        refine aw_cs (d1 := 0) (L1 := 0) rfl rfl (by decide) (by decide) (Nat.le_of_ble_eq_true rfl) (c_X11_numberOf ?_)
        rw [show ((8 * i + j) * 3 + 0) * 4 + S 2 = 4 * ((i * 8 + j) * 3) + S 2 by omega]
        refine aw_ist (ls' := [_, _, _, _, _, _, _, _]) rfl rfl ?_
        refine aw rfl rfl ?_
        refine aw rfl rfl ?_
        refine aw_cv (d1 := 2) (L1 := 43) rfl rfl mg_121 rfl rfl (by decide) (by decide) (Nat.le_of_ble_eq_true rfl) (c_X11_isSquare hM0 hG0 (by omega) (by omega) (fun hs => ?_) (fun hs => ?_))
        · refine aw_ne rfl (fun _ => ?_) (fun c => absurd c (by decide))
          refine aw_c (v := nI 0) rfl (by decide) ?_
          have hlk := hs
          refine aw_ist (ls' := [_, _, _, _, _, _, _, _]) rfl rfl ?_
          refine aw_c (v := nI 0) rfl (by decide) ?_
          refine aw_ist (ls' := [_, _, _, _, _, _, _, _]) rfl rfl ?_
          have hlie := hs
          have hlk := (lkB_iff hG0 hij).mpr hs
          refine (show ∀ z : Bool, allz (fun f => (Fc T (lwf W) none (hm T) n (S 4 * T.1 5)) ((i * 8 + j) * 3 + f) (S 2)) 0 = z → AW am_P 9 229 277 82 [some (.ref 121), some (.int (nI n)), some (.int (nI (ctN (trp T (Fc T (lwf W) none (hm T) n (S 4 * T.1 5)) (S 2)) (i * 8 + j)))), some (.int (nI i)), some (.int (nI j)), some (.int (nI (4 * ((i * 8 + j) * 3) + S 2))), some (.int (bI (!z))), some (.int (nI 0))] [] (mh g k v pl br lo c ct pr pt cm bf bt) Q from fun z hz => ?_) true rfl
          subst hz
          refine aw_loop (α := Unit) (ll := fun f y => [some (.ref 121), some (.int (nI n)), some (.int (nI (ctN (trp T (Fc T (lwf W) none (hm T) n (S 4 * T.1 5)) (S 2)) (i * 8 + j)))), some (.int (nI i)), some (.int (nI j)), some (.int (nI (4 * ((i * 8 + j) * 3) + S 2))), some (.int (bI (!(allz (fun f => (Fc T (lwf W) none (hm T) n (S 4 * T.1 5)) ((i * 8 + j) * 3 + f) (S 2)) f)))), some (.int (nI f))]) (hh := fun f y => (mh g k v pl br lo c ct pr pt cm bf bt)) (I := fun f y => True) (N := T.1 2) (fun f y hif hIf ihf => ?_) (fun y hI => ?_) 0 () (Nat.zero_le _) trivial
          · skip
            have hlf : lieOK T ((i * 8 + j) * 3 + f) := lie_face (s := i * 8 + j) (f := 0) hlie (by decide) hif g2x
            have hlf96 := hlf.1
            have hFf := hF ((i * 8 + j) * 3 + f) (S 2)
            cases ez : allz (fun f => (Fc T (lwf W) none (hm T) n (S 4 * T.1 5)) ((i * 8 + j) * 3 + f) (S 2)) f with
            | true =>
              show AW am_P _ _ _ _ [_, _, _, _, _, _, some (.int (nI 0)), _] _ _ _
              refine aw rfl rfl ?_
              refine aw rfl rfl ?_
              refine aw_getf rfl mg_121 rfl ?_
              refine aw rfl rfl ?_
              refine aw_getfE rfl mg_121 rfl (congrArg Value.int m1) ?_
              refine aw_ialdE rfl mg_133 rfl (by omega) (by decide) mf ?_
              refine aw_igen rfl (fun c93 => by omega) (fun c93 => ?_)
              refine aw rfl rfl ?_
              refine aw_ne rfl (fun c => absurd (by decide) c) (fun _ => ?_)
              refine aw rfl rfl ?_
              refine aw_getf rfl mg_121 rfl ?_
              refine aw rfl rfl ?_
              refine aw_c (v := nI 4) rfl (by decide) ?_
              refine aw rfl rfl ?_
              refine aw_muln rfl ?_
              refine aw_addn rfl ?_
              rw [show 4 * ((i * 8 + j) * 3) + S 2 + 4 * f = 4 * ((i * 8 + j) * 3 + f) + S 2 by omega]
              refine aw_ialdE rfl mg_159 rfl (by omega) (by decide) (hc.1 _ _ hlf (by omega)) ?_
              refine aw_len rfl (fun c113 => ?_) (fun c113 => ?_)
              · refine aw_c (v := nI 0) rfl (by decide) ?_
                refine aw_ist (ls' := [_, _, _, _, _, _, _, _]) rfl rfl ?_
                refine aw_incn (c := 1) (ls' := [_, _, _, _, _, _, _, _]) rfl rfl (by decide) rfl ?_
                refine aw rfl rfl ?_
                have e9 : allz (fun f => (Fc T (lwf W) none (hm T) n (S 4 * T.1 5)) ((i * 8 + j) * 3 + f) (S 2)) (f + 1) = true := by rw [allz, ez, decide_eq_true c113]; rfl
                have ihf := ihf () trivial
                rw [e9] at ihf
                exact ihf
              · refine aw_c (v := nI 1) rfl (by decide) ?_
                refine aw rfl rfl ?_
                refine aw_ist (ls' := [_, _, _, _, _, _, _, _]) rfl rfl ?_
                refine aw_incn (c := 1) (ls' := [_, _, _, _, _, _, _, _]) rfl rfl (by decide) rfl ?_
                refine aw rfl rfl ?_
                have e9 : allz (fun f => (Fc T (lwf W) none (hm T) n (S 4 * T.1 5)) ((i * 8 + j) * 3 + f) (S 2)) (f + 1) = false := by rw [allz, ez, decide_eq_false (Nat.pos_iff_ne_zero.mp c113)]; rfl
                have ihf := ihf () trivial
                rw [e9] at ihf
                exact ihf
            | false =>
              show AW am_P _ _ _ _ [_, _, _, _, _, _, some (.int (nI 1)), _] _ _ _
              refine aw rfl rfl ?_
              refine aw rfl rfl ?_
              refine aw_getf rfl mg_121 rfl ?_
              refine aw rfl rfl ?_
              refine aw_getfE rfl mg_121 rfl (congrArg Value.int m1) ?_
              refine aw_ialdE rfl mg_133 rfl (by omega) (by decide) mf ?_
              refine aw_igen rfl (fun c93 => by omega) (fun c93 => ?_)
              refine aw rfl rfl ?_
              refine aw_ne rfl (fun _ => ?_) (fun c => absurd c (by decide))
              refine aw_c (v := nI 1) rfl (by decide) ?_
              refine aw rfl rfl ?_
              refine aw_ist (ls' := [_, _, _, _, _, _, _, _]) rfl rfl ?_
              refine aw_incn (c := 1) (ls' := [_, _, _, _, _, _, _, _]) rfl rfl (by decide) rfl ?_
              refine aw rfl rfl ?_
              have e9 : allz (fun f => (Fc T (lwf W) none (hm T) n (S 4 * T.1 5)) ((i * 8 + j) * 3 + f) (S 2)) (f + 1) = false := by rw [allz, ez]; rfl
              have ihf := ihf () trivial
              rw [e9] at ihf
              exact ihf
          · skip
            cases ez : allz (fun f => (Fc T (lwf W) none (hm T) n (S 4 * T.1 5)) ((i * 8 + j) * 3 + f) (S 2)) (T.1 2) with
            | true =>
              show AW am_P _ _ _ _ [_, _, _, _, _, _, some (.int (nI 0)), _] _ _ _
              refine aw rfl rfl ?_
              refine aw rfl rfl ?_
              refine aw_getf rfl mg_121 rfl ?_
              refine aw rfl rfl ?_
              refine aw_getfE rfl mg_121 rfl (congrArg Value.int m1) ?_
              refine aw_ialdE rfl mg_133 rfl (by omega) (by decide) mf ?_
              refine aw_igen rfl (fun c93 => ?_) (fun c93 => by omega)
              refine aw rfl rfl ?_
              refine aw_ne rfl (fun c => absurd (by decide) c) (fun _ => ?_)
              refine aw_incn (c := 1) (ls' := [_, _, _, _, _, _, _, _]) rfl rfl (by decide) rfl ?_
              refine aw_incn (c := 1) (ls' := [_, _, _, _, _, _, _, _]) rfl rfl (by decide) rfl ?_
              refine aw rfl rfl ?_
              have e9 : ctN (trp T (Fc T (lwf W) none (hm T) n (S 4 * T.1 5)) (S 2)) (i * 8 + (j + 1)) = ctN (trp T (Fc T (lwf W) none (hm T) n (S 4 * T.1 5)) (S 2)) (i * 8 + j) + 1 := by rw [show i * 8 + (j + 1) = i * 8 + j + 1 by omega]; show ctN _ (i * 8 + j) + (bif trp T _ _ (i * 8 + j) then 1 else 0) = _; unfold trp; rw [hlk, ez]; rfl
              have ihj := ihj (some (.int (nI (4 * ((i * 8 + j) * 3) + S 2))), some (.int (nI 0)), some (.int (nI (T.1 2)))) trivial
              rw [e9] at ihj
              exact ihj
            | false =>
              show AW am_P _ _ _ _ [_, _, _, _, _, _, some (.int (nI 1)), _] _ _ _
              refine aw rfl rfl ?_
              refine aw rfl rfl ?_
              refine aw_getf rfl mg_121 rfl ?_
              refine aw rfl rfl ?_
              refine aw_getfE rfl mg_121 rfl (congrArg Value.int m1) ?_
              refine aw_ialdE rfl mg_133 rfl (by omega) (by decide) mf ?_
              refine aw_igen rfl (fun c93 => ?_) (fun c93 => by omega)
              refine aw rfl rfl ?_
              refine aw_ne rfl (fun _ => ?_) (fun c => absurd c (by decide))
              refine aw_incn (c := 1) (ls' := [_, _, _, _, _, _, _, _]) rfl rfl (by decide) rfl ?_
              refine aw rfl rfl ?_
              have e9 : ctN (trp T (Fc T (lwf W) none (hm T) n (S 4 * T.1 5)) (S 2)) (i * 8 + (j + 1)) = ctN (trp T (Fc T (lwf W) none (hm T) n (S 4 * T.1 5)) (S 2)) (i * 8 + j) + 0 := by rw [show i * 8 + (j + 1) = i * 8 + j + 1 by omega]; show ctN _ (i * 8 + j) + (bif trp T _ _ (i * 8 + j) then 1 else 0) = _; unfold trp; rw [hlk, ez]; rfl
              have ihj := ihj (some (.int (nI (4 * ((i * 8 + j) * 3) + S 2))), some (.int (nI 1)), some (.int (nI (T.1 2)))) trivial
              rw [e9] at ihj
              exact ihj
        · refine aw_ne rfl (fun c => absurd (by decide) c) (fun _ => ?_)
          refine aw_c (v := nI 1) rfl (by decide) ?_
          refine aw rfl rfl ?_
          have hlk := hs
          refine aw_ist (ls' := [_, _, _, _, _, _, _, _]) rfl rfl ?_
          refine aw_c (v := nI 0) rfl (by decide) ?_
          refine aw_ist (ls' := [_, _, _, _, _, _, _, _]) rfl rfl ?_
          have hlk : lkB T (i * 8 + j) = false := Bool.eq_false_iff.mpr (fun z => hs ((lkB_iff hG0 hij).mp z))
          refine aw_loop (α := Unit) (ll := fun f y => [some (.ref 121), some (.int (nI n)), some (.int (nI (ctN (trp T (Fc T (lwf W) none (hm T) n (S 4 * T.1 5)) (S 2)) (i * 8 + j)))), some (.int (nI i)), some (.int (nI j)), some (.int (nI (4 * ((i * 8 + j) * 3) + S 2))), some (.int (nI 1)), some (.int (nI f))]) (hh := fun f y => (mh g k v pl br lo c ct pr pt cm bf bt)) (I := fun f y => True) (N := T.1 2) (fun f y hif hIf ihf => ?_) (fun y hI => ?_) 0 () (Nat.zero_le _) trivial
          · skip
            refine aw rfl rfl ?_
            refine aw rfl rfl ?_
            refine aw_getf rfl mg_121 rfl ?_
            refine aw rfl rfl ?_
            refine aw_getfE rfl mg_121 rfl (congrArg Value.int m1) ?_
            refine aw_ialdE rfl mg_133 rfl (by omega) (by decide) mf ?_
            refine aw_igen rfl (fun c93 => by omega) (fun c93 => ?_)
            refine aw rfl rfl ?_
            refine aw_ne rfl (fun _ => ?_) (fun c => absurd c (by decide))
            refine aw_c (v := nI 1) rfl (by decide) ?_
            refine aw rfl rfl ?_
            refine aw_ist (ls' := [_, _, _, _, _, _, _, _]) rfl rfl ?_
            refine aw_incn (c := 1) (ls' := [_, _, _, _, _, _, _, _]) rfl rfl (by decide) rfl ?_
            refine aw rfl rfl ?_
            exact ihf () trivial
          · skip
            refine aw rfl rfl ?_
            refine aw rfl rfl ?_
            refine aw_getf rfl mg_121 rfl ?_
            refine aw rfl rfl ?_
            refine aw_getfE rfl mg_121 rfl (congrArg Value.int m1) ?_
            refine aw_ialdE rfl mg_133 rfl (by omega) (by decide) mf ?_
            refine aw_igen rfl (fun c93 => ?_) (fun c93 => by omega)
            refine aw rfl rfl ?_
            refine aw_ne rfl (fun _ => ?_) (fun c => absurd c (by decide))
            refine aw_incn (c := 1) (ls' := [_, _, _, _, _, _, _, _]) rfl rfl (by decide) rfl ?_
            refine aw rfl rfl ?_
            have e9 : ctN (trp T (Fc T (lwf W) none (hm T) n (S 4 * T.1 5)) (S 2)) (i * 8 + (j + 1)) = ctN (trp T (Fc T (lwf W) none (hm T) n (S 4 * T.1 5)) (S 2)) (i * 8 + j) := by rw [show i * 8 + (j + 1) = i * 8 + j + 1 by omega]; show ctN _ (i * 8 + j) + (bif trp T _ _ (i * 8 + j) then 1 else 0) = _; unfold trp; rw [hlk]; rfl
            have ihj := ihj (some (.int (nI (4 * ((i * 8 + j) * 3) + S 2))), some (.int (nI 1)), some (.int (nI (T.1 2)))) trivial
            rw [e9] at ihj
            exact ihj
      · skip
        obtain ⟨y1, y2, y3⟩ := y
        dsimp only
        refine aw rfl rfl ?_
        refine aw rfl rfl ?_
        refine aw_getf rfl mg_121 rfl ?_
        refine aw rfl rfl ?_
        refine aw_getfE rfl mg_121 rfl (congrArg Value.int m1) ?_
        refine aw_ialdE rfl mg_131 rfl (by omega) (by decide) mw ?_
        refine aw_igen rfl (fun c45 => ?_) (fun c45 => by omega)
        refine aw_incn (c := 1) (ls' := [_, _, _, _, _, _, _, _]) rfl rfl (by decide) rfl ?_
        refine aw rfl rfl ?_
        have e9 : ctN (trp T (Fc T (lwf W) none (hm T) n (S 4 * T.1 5)) (S 2)) ((i + 1) * 8) = ctN (trp T (Fc T (lwf W) none (hm T) n (S 4 * T.1 5)) (S 2)) (i * 8 + T.1 0) := by
          have := ctN_z (P := (trp T (Fc T (lwf W) none (hm T) n (S 4 * T.1 5)) (S 2))) (a := i * 8 + T.1 0) (8 - T.1 0) (fun z h1 h2 => trp_out (Or.inl (by omega)))
          rw [show i * 8 + T.1 0 + (8 - T.1 0) = (i + 1) * 8 by omega] at this
          exact this
        have ihi := ihi (some (.int (nI (T.1 0))), y1, y2, y3) trivial
        rw [e9] at ihi
        exact ihi
    · skip
      refine aw rfl rfl ?_
      refine aw rfl rfl ?_
      refine aw_getf rfl mg_121 rfl ?_
      refine aw rfl rfl ?_
      refine aw_getfE rfl mg_121 rfl (congrArg Value.int m1) ?_
      refine aw_ialdE rfl mg_130 rfl (by omega) (by decide) mr ?_
      refine aw_igen rfl (fun c28 => ?_) (fun c28 => by omega)
      refine aw rfl rfl ?_
      exact aw_iret rfl rfl (by have := ctN_z (P := (trp T (Fc T (lwf W) none (hm T) n (S 4 * T.1 5)) (S 2))) (a := T.1 1 * 8) (32 - T.1 1 * 8) (fun z h1 h2 => trp_out (Or.inr (by omega))); rw [show T.1 1 * 8 + (32 - T.1 1 * 8) = 32 by omega] at this; rw [this] at q; exact q _ _ _ _ _ _)
  · refine aw_ne rfl (fun c => absurd (by decide) c) (fun _ => ?_)
    refine aw_c (v := -1) rfl (by decide) ?_
    exact aw_iret rfl rfl (by rw [sp_out p] at q; exact q _ _ _ _ _ _)
end M1
