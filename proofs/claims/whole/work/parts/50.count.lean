/-! ===== the reference: feed, back, place, undo, count ===== -/
def a_feed (nt : Nat) : Int32 := if nt + 20 ≤ 2000 then nI (nt + 20) else -1
def n_nt (nt : Nat) : Nat := if nt + 20 ≤ 2000 then nt + 20 else nt
def ftp (nt : Nat) (tp : Nat → Int32) (a b c d e : Int32) : Nat → Int32 := if nt + 20 ≤ 2000 then ptp (nt + 16) (ptp (nt + 12) (ptp (nt + 8) (ptp (nt + 4) (ptp nt tp a) b) c) d) e else tp
def a_back (nt : Nat) (x : Int32) : Int32 := if nI 0 ≤ x ∧ x ≤ nI nt then nI (nt - x.toNatClampNeg) else -1
def b_nt (nt : Nat) (x : Int32) : Nat := if nI 0 ≤ x ∧ x ≤ nI nt then nt - x.toNatClampNeg else nt
theorem upd_cg {f g : Nat → Int32} {m n : Nat} {z : Int32} (h : ∀ i, i < m → f i = g i) (hm : n = m) : ∀ i, i < m + 1 → upd f n z i = upd g n z i := by
  intro i hi
  by_cases e : i = n
  · subst e; rw [upd_at, upd_at]
  · rw [upd_ne e, upd_ne e]; exact h i (by omega)
section M1
variable {g : am_H} {k : Mk} {v pl : Nat → Int32} {br lo : Int32} {c ct pr pt cm bf bt : Nat → Int32}
variable {lv : Nat} {T : Sd} {W : Nat → Lw}
variable {S : Nat → Nat} {u td nt cc : Nat} {P Z : Nat → Nat → Nat} {TD : Nat → Nat} {hd : Nat → Bool} {tp : Nat → Int32} {pc : Int32}
theorem c_X11_put {Q : Option Value → am_H → Prop} (hA : TPR k nt tp) (h20 : nt + 4 ≤ 2000) {w : Int32} (q : ∀ k', KS k k' [2] [1] → TPR k' (nt + 4) (ptp nt tp w) → Q none (mh g k' v pl br lo c ct pr pt cm bf bt)) : AC am_P 0 0 192 [.ref 121, .int w] (mh g k v pl br lo c ct pr pt cm bf bt) Q := by
  refine AC.of (ls := [_, _, _]) rfl ?_
  obtain ⟨a0, a2, ain⟩ := hA
  refine aw_c (v := nI 24) rfl (by decide) ?_
  refine aw_ist (ls' := [_, _, _]) rfl rfl ?_
  refine aw rfl rfl ?_
  refine aw_lt rfl (fun c => absurd c (by decide)) (fun _ => ?_)
  refine aw rfl rfl ?_
  refine aw_getf rfl mg_121 rfl ?_
  refine aw rfl rfl ?_
  refine aw_getfE rfl mg_121 rfl (congrArg Value.int a2) ?_
  refine aw rfl rfl ?_
  refine aw rfl rfl ?_
  refine aw rfl rfl ?_
  refine aw rfl rfl ?_
  refine aw_bastU rfl mg_122 rfl (by omega) (by decide) (by decide) mu_122 ?_
  refine aw rfl rfl ?_
  refine aw rfl rfl ?_
  refine aw_getfE rfl mg_121 rfl (congrArg Value.int a2) ?_
  refine aw_c (v := nI 1) rfl (by decide) ?_
  refine aw_addn rfl ?_
  refine aw_putfU rfl mg_121 rfl rfl (by decide) mp_2 ?_
  refine aw_incc (c := -8) (y := nI 16) (ls' := [_, _, _]) rfl rfl (by decide) (by decide) rfl ?_
  refine aw rfl rfl ?_
  refine aw rfl rfl ?_
  refine aw_lt rfl (fun c => absurd c (by decide)) (fun _ => ?_)
  refine aw rfl rfl ?_
  refine aw_getf rfl mg_121 rfl ?_
  refine aw rfl rfl ?_
  refine aw_getfE rfl mg_121 rfl (congrArg Value.int (show _ = nI (nt + 1) from rfl)) ?_
  refine aw rfl rfl ?_
  refine aw rfl rfl ?_
  refine aw rfl rfl ?_
  refine aw rfl rfl ?_
  refine aw_bastU rfl mg_122 rfl (by omega) (by decide) (by decide) mu_122 ?_
  refine aw rfl rfl ?_
  refine aw rfl rfl ?_
  refine aw_getfE rfl mg_121 rfl (congrArg Value.int (show _ = nI (nt + 1) from rfl)) ?_
  refine aw_c (v := nI 1) rfl (by decide) ?_
  refine aw_addn rfl ?_
  refine aw_putfU rfl mg_121 rfl rfl (by decide) mp_2 ?_
  refine aw_incc (c := -8) (y := nI 8) (ls' := [_, _, _]) rfl rfl (by decide) (by decide) rfl ?_
  refine aw rfl rfl ?_
  refine aw rfl rfl ?_
  refine aw_lt rfl (fun c => absurd c (by decide)) (fun _ => ?_)
  refine aw rfl rfl ?_
  refine aw_getf rfl mg_121 rfl ?_
  refine aw rfl rfl ?_
  refine aw_getfE rfl mg_121 rfl (congrArg Value.int (show _ = nI (nt + 2) from rfl)) ?_
  refine aw rfl rfl ?_
  refine aw rfl rfl ?_
  refine aw rfl rfl ?_
  refine aw rfl rfl ?_
  refine aw_bastU rfl mg_122 rfl (by omega) (by decide) (by decide) mu_122 ?_
  refine aw rfl rfl ?_
  refine aw rfl rfl ?_
  refine aw_getfE rfl mg_121 rfl (congrArg Value.int (show _ = nI (nt + 2) from rfl)) ?_
  refine aw_c (v := nI 1) rfl (by decide) ?_
  refine aw_addn rfl ?_
  refine aw_putfU rfl mg_121 rfl rfl (by decide) mp_2 ?_
  refine aw_incc (c := -8) (y := nI 0) (ls' := [_, _, _]) rfl rfl (by decide) (by decide) rfl ?_
  refine aw rfl rfl ?_
  refine aw rfl rfl ?_
  refine aw_lt rfl (fun c => absurd c (by decide)) (fun _ => ?_)
  refine aw rfl rfl ?_
  refine aw_getf rfl mg_121 rfl ?_
  refine aw rfl rfl ?_
  refine aw_getfE rfl mg_121 rfl (congrArg Value.int (show _ = nI (nt + 3) from rfl)) ?_
  refine aw rfl rfl ?_
  refine aw rfl rfl ?_
  refine aw rfl rfl ?_
  refine aw rfl rfl ?_
  refine aw_bastU rfl mg_122 rfl (by omega) (by decide) (by decide) mu_122 ?_
  refine aw rfl rfl ?_
  refine aw rfl rfl ?_
  refine aw_getfE rfl mg_121 rfl (congrArg Value.int (show _ = nI (nt + 3) from rfl)) ?_
  refine aw_c (v := nI 1) rfl (by decide) ?_
  refine aw_addn rfl ?_
  refine aw_putfU rfl mg_121 rfl rfl (by decide) mp_2 ?_
  refine aw_incc (c := -8) (y := -8) (ls' := [_, _, _]) rfl rfl (by decide) (by decide) rfl ?_
  refine aw rfl rfl ?_
  refine aw rfl rfl ?_
  refine aw_lt rfl (fun _ => ?_) (fun c => absurd (by decide) c)
  exact aw_vret rfl rfl (by
    refine q _ ?_ ?_
    · exact (((((((ks2.tr ks1).tr ks2).tr ks1).tr ks2).tr ks1).tr ks2).tr ks1).sub (by simp) (by simp)
    · refine ⟨by omega, rfl, ?_⟩
      show ∀ i, i < nt + 4 → upd (upd (upd (upd (k.2.1 1) nt (byt w 24)) (nt + 1) (byt w 16)) (nt + 2) (byt w 8)) (nt + 3) (byt w 0) i = ptp nt tp w i
      exact upd_cg (m := nt + 3) (upd_cg (m := nt + 2) (upd_cg (m := nt + 1) (upd_cg ain rfl) rfl) rfl) rfl)
theorem c_X11_feed {Q : Option Value → am_H → Prop} (hX : MS k T W S u P td TD hd Z nt tp pc cc) {x1 x2 x3 x4 x5 : Int32} (q : ∀ k', MS k' T W S u P td TD hd Z (n_nt nt) (ftp nt tp x1 x2 x3 x4 x5) pc cc → Q (some (.int (a_feed nt))) (mh g k' v pl br lo c ct pr pt cm bf bt)) : AC am_P 1 22 191 [.ref 121, .int x1, .int x2, .int x3, .int x4, .int x5] (mh g k v pl br lo c ct pr pt cm bf bt) Q := by
  refine AC.of (ls := [_, _, _, _, _, _]) rfl ?_
  have hX0 := hX
  obtain ⟨⟨lv, hM⟩, hG, hN, hSC, hH, hT, hL, hA, hpc, hKY, hcc⟩ := hX
  have hS := hSC.1
  have hM0 := hM
  have hG0 := hG
  obtain ⟨m0, m1, mr, mw, mf, mk, mli, mt, ms, msq, moc, mwy, msp, mlw⟩ := hM
  obtain ⟨⟨g0, g0x⟩, ⟨g1, g1x⟩, ⟨g2, g2x⟩, ⟨g3, g3x⟩, g4, ⟨g5, g5x⟩, g6, gsq, goc, gwt, gsp, gfr⟩ := hG
  have hN0 := hN
  have hS0 := hS
  obtain ⟨n0, n1, n2, n3, n4, n5, n6, n7, n8⟩ := hN
  obtain ⟨s0, s1, s2, s3, s4, s5, s6⟩ := hS
  have a0 := hA.1
  have a2 := hA.2.1
  unfold a_feed n_nt ftp at q
  refine aw rfl rfl ?_
  refine aw_getfE rfl mg_121 rfl (congrArg Value.int a2) ?_
  refine aw_c (v := nI 20) rfl (by decide) ?_
  refine aw_addn rfl ?_
  refine aw_c (v := nI 2000) rfl (by decide) ?_
  refine aw_ilen rfl (fun c10 => ?_) (fun c10 => ?_)
  · refine aw rfl rfl ?_
    refine aw rfl rfl ?_
    refine aw_cv (d1 := 0) (L1 := 0) rfl rfl mg_121 rfl rfl (by decide) (by decide) (Nat.le_of_ble_eq_true rfl) (c_X11_put (nt := nt) hA (by omega) (fun k1 hk1 hA1 => ?_))
    refine aw rfl rfl ?_
    refine aw rfl rfl ?_
    refine aw_cv (d1 := 0) (L1 := 0) rfl rfl mg_121 rfl rfl (by decide) (by decide) (Nat.le_of_ble_eq_true rfl) (c_X11_put (nt := nt + 4) hA1 (by omega) (fun k2 hk2 hA2 => ?_))
    refine aw rfl rfl ?_
    refine aw rfl rfl ?_
    refine aw_cv (d1 := 0) (L1 := 0) rfl rfl mg_121 rfl rfl (by decide) (by decide) (Nat.le_of_ble_eq_true rfl) (c_X11_put (nt := nt + 8) hA2 (by omega) (fun k3 hk3 hA3 => ?_))
    refine aw rfl rfl ?_
    refine aw rfl rfl ?_
    refine aw_cv (d1 := 0) (L1 := 0) rfl rfl mg_121 rfl rfl (by decide) (by decide) (Nat.le_of_ble_eq_true rfl) (c_X11_put (nt := nt + 12) hA3 (by omega) (fun k4 hk4 hA4 => ?_))
    refine aw rfl rfl ?_
    refine aw rfl rfl ?_
    refine aw_cv (d1 := 0) (L1 := 0) rfl rfl mg_121 rfl rfl (by decide) (by decide) (Nat.le_of_ble_eq_true rfl) (c_X11_put (nt := nt + 16) hA4 (by omega) (fun k5 hk5 hA5 => ?_))
    refine aw rfl rfl ?_
    refine aw_getfE rfl mg_121 rfl (congrArg Value.int hA5.2.1) ?_
    exact aw_iret rfl rfl (by rw [if_pos c10, if_pos c10, if_pos c10] at q; exact q _ (hX0.tape (((((hk1.tr hk2).tr hk3).tr hk4).tr hk5).sub (by simp) (by simp)) hA5))
  · refine aw_c (v := -1) rfl (by decide) ?_
    exact aw_iret rfl rfl (by rw [if_neg c10, if_neg c10, if_neg c10] at q; exact q _ hX0)
theorem c_X11_back {Q : Option Value → am_H → Prop} (hX : MS k T W S u P td TD hd Z nt tp pc cc) {x : Int32} (q : ∀ k', MS k' T W S u P td TD hd Z (b_nt nt x) tp pc cc → Q (some (.int (a_back nt x))) (mh g k' v pl br lo c ct pr pt cm bf bt)) : AC am_P 0 0 193 [.ref 121, .int x] (mh g k v pl br lo c ct pr pt cm bf bt) Q := by
  refine AC.of (ls := [_, _]) rfl ?_
  have hX0 := hX
  obtain ⟨⟨lv, hM⟩, hG, hN, hSC, hH, hT, hL, hA, hpc, hKY, hcc⟩ := hX
  have hS := hSC.1
  have hM0 := hM
  have hG0 := hG
  obtain ⟨m0, m1, mr, mw, mf, mk, mli, mt, ms, msq, moc, mwy, msp, mlw⟩ := hM
  obtain ⟨⟨g0, g0x⟩, ⟨g1, g1x⟩, ⟨g2, g2x⟩, ⟨g3, g3x⟩, g4, ⟨g5, g5x⟩, g6, gsq, goc, gwt, gsp, gfr⟩ := hG
  have hN0 := hN
  have hS0 := hS
  obtain ⟨n0, n1, n2, n3, n4, n5, n6, n7, n8⟩ := hN
  obtain ⟨s0, s1, s2, s3, s4, s5, s6⟩ := hS
  have a0 := hA.1
  have a2 := hA.2.1
  unfold a_back b_nt at q
  refine aw rfl rfl ?_
  refine aw_lt rfl (fun c1 => ?_) (fun c1 => ?_)
  · refine aw_c (v := -1) rfl (by decide) ?_
    exact aw_iret rfl rfl (by rw [if_neg (fun y => absurd c1 (Int32.not_lt.mpr y.1)), if_neg (fun y => absurd c1 (Int32.not_lt.mpr y.1))] at q; exact q _ hX0)
  · obtain ⟨n, hn, rfl⟩ := nI_of c1
    refine aw rfl rfl ?_
    refine aw rfl rfl ?_
    refine aw_getfE rfl mg_121 rfl (congrArg Value.int a2) ?_
    refine aw_ilen rfl (fun c9 => ?_) (fun c9 => ?_)
    · refine aw rfl rfl ?_
      refine aw rfl rfl ?_
      refine aw_getfE rfl mg_121 rfl (congrArg Value.int a2) ?_
      refine aw rfl rfl ?_
      refine aw_subn rfl (by omega) ?_
      refine aw_putfU rfl mg_121 rfl rfl (by decide) mp_2 ?_
      refine aw rfl rfl ?_
      refine aw_getfE rfl mg_121 rfl (congrArg Value.int (show _ = nI (nt - n) from rfl)) ?_
      exact aw_iret rfl rfl (by rw [if_pos ⟨nI_pos' hn, nI_le c9 (by omega)⟩, if_pos ⟨nI_pos' hn, nI_le c9 (by omega)⟩, nI_clamp hn] at q; exact q _ (hX0.tape (ks1.sub (by simp) (by simp)) ⟨by omega, rfl, fun i hi => hA.2.2 i (by omega)⟩))
    · refine aw_c (v := -1) rfl (by decide) ?_
      exact aw_iret rfl rfl (by rw [if_neg (fun y => c9 ((nI_leI hn (by omega)).mp y.2)), if_neg (fun y => c9 ((nI_leI hn (by omega)).mp y.2))] at q; exact q _ hX0)
theorem c_X11_place {Q : Option Value → am_H → Prop} (hX : MS k T W S u P td TD hd Z nt tp pc cc) (q : Q (some (.int pc)) (mh g k v pl br lo c ct pr pt cm bf bt)) : AC am_P 0 0 219 [.ref 121] (mh g k v pl br lo c ct pr pt cm bf bt) Q := by
  refine AC.of (ls := [_]) rfl ?_
  have hX0 := hX
  obtain ⟨⟨lv, hM⟩, hG, hN, hSC, hH, hT, hL, hA, hpc, hKY, hcc⟩ := hX
  have hS := hSC.1
  refine aw rfl rfl ?_
  refine aw_getfE rfl mg_121 rfl (congrArg Value.int hpc) ?_
  exact aw_iret rfl rfl q
theorem c_X11_undo {Q : Option Value → am_H → Prop} (hX : MS k T W S u P td TD hd Z nt tp pc cc) (q0 : u = 0 → Q (some (.int (nI 0))) (mh g k v pl br lo c ct pr pt cm bf bt)) (q1 : ∀ k', 0 < u → MS k' T W (P (u - 1)) (u - 1) P td TD hd Z nt tp pc cc → Q (some (.int (nI 1))) (mh g k' v pl br lo c ct pr pt cm bf bt)) : AC am_P 0 0 250 [.ref 121] (mh g k v pl br lo c ct pr pt cm bf bt) Q := by
  refine AC.of (ls := [_, _]) rfl ?_
  have hX0 := hX
  obtain ⟨⟨lv, hM⟩, hG, hN, hSC, hH, hT, hL, hA, hpc, hKY, hcc⟩ := hX
  have hS := hSC.1
  have hM0 := hM
  have hG0 := hG
  obtain ⟨m0, m1, mr, mw, mf, mk, mli, mt, ms, msq, moc, mwy, msp, mlw⟩ := hM
  obtain ⟨⟨g0, g0x⟩, ⟨g1, g1x⟩, ⟨g2, g2x⟩, ⟨g3, g3x⟩, g4, ⟨g5, g5x⟩, g6, gsq, goc, gwt, gsp, gfr⟩ := hG
  have hN0 := hN
  have hS0 := hS
  obtain ⟨n0, n1, n2, n3, n4, n5, n6, n7, n8⟩ := hN
  obtain ⟨s0, s1, s2, s3, s4, s5, s6⟩ := hS
  obtain ⟨u0, u58, uin⟩ := hH
  refine aw rfl rfl ?_
  refine aw_getfE rfl mg_121 rfl (congrArg Value.int u58) ?_
  refine aw_nen rfl (fun c4 => ?_) (fun c4 => ?_)
  · refine aw rfl rfl ?_
    refine aw rfl rfl ?_
    refine aw_getfE rfl mg_121 rfl (congrArg Value.int u58) ?_
    refine aw_c (v := nI 1) rfl (by decide) ?_
    refine aw_subn rfl (by omega) ?_
    refine aw_putfU rfl mg_121 rfl rfl (by decide) mp_58 ?_
    refine aw_c (v := nI 0) rfl (by decide) ?_
    refine aw_ist (ls' := [_, _]) rfl rfl ?_
    refine (show AW am_P 0 0 250 21 [some (.ref 121), some (.int (nI 0))] [] (mh g (va_up k.1 58 (nI (u - 1)), va_up k.2.1 53 (k.2.1 53), k.2.2) v pl br lo c ct pr pt cm bf bt) Q → _ from fun z => by rw [va_self0] at z; exact z) ?_
    refine aw_loop (α := Nat → Int32) (ll := fun z y => [some (.ref 121), some (.int (nI z))]) (hh := fun z y => mh g (va_up k.1 58 (nI (u - 1)), va_up k.2.1 53 y, k.2.2) v pl br lo c ct pr pt cm bf bt) (I := fun z y => ∀ j, j < z → y j = k.2.1 59 (10 * (u - 1) + j)) (N := 10) (fun z y hz hIz ihz => ?_) (fun y hIz => ?_) 0 (k.2.1 53) (Nat.zero_le _) (fun j hj => absurd hj (Nat.not_lt_zero _))
    · skip
      refine aw rfl rfl ?_
      refine aw_c (v := nI 10) rfl (by decide) ?_
      refine aw_igen rfl (fun c24 => by omega) (fun c24 => ?_)
      refine aw rfl rfl ?_
      refine aw_getf rfl mg_121 rfl ?_
      refine aw rfl rfl ?_
      refine aw rfl rfl ?_
      refine aw_getf rfl mg_121 rfl ?_
      refine aw_c (v := nI 10) rfl (by decide) ?_
      refine aw rfl rfl ?_
      refine aw_getfE rfl mg_121 rfl (congrArg Value.int (show _ = nI (u - 1) from rfl)) ?_
      refine aw_muln rfl ?_
      refine aw rfl rfl ?_
      refine aw_addn rfl ?_
      refine aw_iald rfl mg_161 rfl (by omega) (by decide) ?_
      refine aw_iastU rfl mg_157 rfl (by omega) (by decide) (by decide) mu_157 ?_
      refine aw_incn (c := 1) (ls' := [_, _]) rfl rfl (by decide) rfl ?_
      refine aw rfl rfl ?_
      exact ihz (upd y z (k.2.1 59 (10 * (u - 1) + z))) (fun j hj => by
        by_cases e : j = z
        · subst e; exact upd_at
        · exact (upd_ne e).trans (hIz j (by omega)))
    · skip
      refine aw rfl rfl ?_
      refine aw_c (v := nI 10) rfl (by decide) ?_
      refine aw_ige rfl (fun _ => ?_) (fun c => absurd (by decide) c)
      refine aw_c (v := nI 1) rfl (by decide) ?_
      exact aw_iret rfl rfl (by
        have hks := (ks1 (k := k) (i := 58) (x := nI (u - 1))).tr (ks2 (i := 53) (f := y))
        have h0 := hX0.keep hks (by decide) (fun i h1 h2 => by simp; omega)
        have hz2 := uin (u - 1) (by omega)
        exact q1 _ (by omega) ⟨h0.1, hG0, hz2.1.congr hIz, hz2.2, ⟨by omega, rfl, fun i hi => uin i (by omega)⟩, hT.keep hks (by decide) (by decide) (by decide), hL.keep hks (by decide) (by decide), hA.keep hks (by decide) (by decide), hpc, h0.2.2, hcc⟩)
  · refine aw_c (v := nI 0) rfl (by decide) ?_
    exact aw_iret rfl rfl (q0 c4)
def hmc (T : Sd) : Nat := ctN (fun s => decide (T.2 0 s = nI 6)) 32
def hdc (hd : Nat → Bool) : Nat := ctN hd 3
def a_count (T : Sd) (u td nt : Nat) (hd : Nat → Bool) (x : Int32) : Int32 := if x = nI 0 then nI (T.1 0) else if x = nI 1 then nI (T.1 1) else if x = nI 2 then nI (T.1 2) else if x = nI 3 then nI (T.1 3) else if x = nI 4 then nI (T.1 5) else if x = nI 5 then nI (hmc T) else if x = nI 6 then nI nt else if x = nI 7 then nI u else if x = nI 8 then nI td else if x = nI 9 then nI (hdc hd) else if x = nI 10 then nI (sm (oc T) (T.1 3)) else -1
theorem hm_out {T : Sd} {s : Nat} (hG : GS T) (hs : s < 32) (h : T.1 0 ≤ s % 8 ∨ T.1 1 ≤ s / 8) : decide (T.2 0 s = nI 6) = false := by
  obtain ⟨⟨g0, g0x⟩, ⟨g1, g1x⟩, ⟨g2, g2x⟩, ⟨g3, g3x⟩, g4, ⟨g5, g5x⟩, g6, gsq, goc, gwt, gsp, gfr⟩ := hG
  rw [(gsq s hs).2 (by omega)]
  decide
theorem c_X11_count {Q : Option Value → am_H → Prop} (hX : MS k T W S u P td TD hd Z nt tp pc cc) {x : Int32} (q : Q (some (.int (a_count T u td nt hd x))) (mh g k v pl br lo c ct pr pt cm bf bt)) : AC am_P 1 22 292 [.ref 121, .int x] (mh g k v pl br lo c ct pr pt cm bf bt) Q := by
  refine AC.of (ls := [_, _, _, _, _]) rfl ?_
  have hX0 := hX
  obtain ⟨⟨lv, hM⟩, hG, hN, hSC, hH, hT, hL, hA, hpc, hKY, hcc⟩ := hX
  have hS := hSC.1
  have hM0 := hM
  have hG0 := hG
  obtain ⟨m0, m1, mr, mw, mf, mk, mli, mt, ms, msq, moc, mwy, msp, mlw⟩ := hM
  obtain ⟨⟨g0, g0x⟩, ⟨g1, g1x⟩, ⟨g2, g2x⟩, ⟨g3, g3x⟩, g4, ⟨g5, g5x⟩, g6, gsq, goc, gwt, gsp, gfr⟩ := hG
  have hN0 := hN
  have hS0 := hS
  obtain ⟨n0, n1, n2, n3, n4, n5, n6, n7, n8⟩ := hN
  obtain ⟨s0, s1, s2, s3, s4, s5, s6⟩ := hS
  obtain ⟨u0, u58, uin⟩ := hH
  obtain ⟨t5, t63, tin⟩ := hT
  have a2 := hA.2.1
  have hl0 := (hL 0 (by decide)).1
  have hl1 := (hL 1 (by decide)).1
  have hl2 := (hL 2 (by decide)).1
  unfold a_count at q
  by_cases e0 : x = nI 0
  · subst e0
    rw [if_pos rfl] at q
    refine aw rfl rfl ?_
    refine aw_ts (z := 0) (tgt := 60) rfl (by decide) (by decide) ?_
    refine aw rfl rfl ?_
    refine aw_getf rfl mg_121 rfl ?_
    refine aw rfl rfl ?_
    refine aw_getfE rfl mg_121 rfl (congrArg Value.int m1) ?_
    refine aw_ialdE rfl mg_131 rfl (by omega) (by decide) mw ?_
    exact aw_iret rfl rfl q
  by_cases e1 : x = nI 1
  · subst e1
    rw [if_neg (by decide), if_pos rfl] at q
    refine aw rfl rfl ?_
    refine aw_ts (z := 1) (tgt := 70) rfl (by decide) (by decide) ?_
    refine aw rfl rfl ?_
    refine aw_getf rfl mg_121 rfl ?_
    refine aw rfl rfl ?_
    refine aw_getfE rfl mg_121 rfl (congrArg Value.int m1) ?_
    refine aw_ialdE rfl mg_130 rfl (by omega) (by decide) mr ?_
    exact aw_iret rfl rfl q
  by_cases e2 : x = nI 2
  · subst e2
    rw [if_neg (by decide), if_neg (by decide), if_pos rfl] at q
    refine aw rfl rfl ?_
    refine aw_ts (z := 2) (tgt := 80) rfl (by decide) (by decide) ?_
    refine aw rfl rfl ?_
    refine aw_getf rfl mg_121 rfl ?_
    refine aw rfl rfl ?_
    refine aw_getfE rfl mg_121 rfl (congrArg Value.int m1) ?_
    refine aw_ialdE rfl mg_133 rfl (by omega) (by decide) mf ?_
    exact aw_iret rfl rfl q
  by_cases e3 : x = nI 3
  · subst e3
    rw [if_neg (by decide), if_neg (by decide), if_neg (by decide), if_pos rfl] at q
    refine aw rfl rfl ?_
    refine aw_ts (z := 3) (tgt := 90) rfl (by decide) (by decide) ?_
    refine aw rfl rfl ?_
    refine aw_getf rfl mg_121 rfl ?_
    refine aw rfl rfl ?_
    refine aw_getfE rfl mg_121 rfl (congrArg Value.int m1) ?_
    refine aw_ialdE rfl mg_134 rfl (by omega) (by decide) mk ?_
    exact aw_iret rfl rfl q
  by_cases e4 : x = nI 4
  · subst e4
    rw [if_neg (by decide), if_neg (by decide), if_neg (by decide), if_neg (by decide), if_pos rfl] at q
    refine aw rfl rfl ?_
    refine aw_ts (z := 4) (tgt := 100) rfl (by decide) (by decide) ?_
    refine aw rfl rfl ?_
    refine aw_getf rfl mg_121 rfl ?_
    refine aw rfl rfl ?_
    refine aw_getfE rfl mg_121 rfl (congrArg Value.int m1) ?_
    refine aw_ialdE rfl mg_143 rfl (by omega) (by decide) mt ?_
    exact aw_iret rfl rfl q
  by_cases e5 : x = nI 5
  · subst e5
    rw [if_neg (by decide), if_neg (by decide), if_neg (by decide), if_neg (by decide), if_neg (by decide), if_pos rfl] at q
    refine aw rfl rfl ?_
    refine aw_ts (z := 5) (tgt := 110) rfl (by decide) (by decide) ?_
    refine aw_c (v := nI 0) rfl (by decide) ?_
    refine aw_ist (ls' := [_, _, _, _, _]) rfl rfl ?_
    refine aw_c (v := nI 0) rfl (by decide) ?_
    refine aw_ist (ls' := [_, _, _, _, _]) rfl rfl ?_
    refine aw_loop (α := Option Value) (ll := fun i y => [some (.ref 121), some (.int (nI 5)), some (.int (nI (ctN (fun s => decide (T.2 0 s = nI 6)) (i * 8)))), some (.int (nI i)), y]) (hh := fun i y => (mh g k v pl br lo c ct pr pt cm bf bt)) (I := fun i y => True) (N := T.1 1) (fun i y hi hI ihi => ?_) (fun y hI => ?_) 0 none (Nat.zero_le _) trivial
    · skip
      refine aw rfl rfl ?_
      refine aw rfl rfl ?_
      refine aw_getf rfl mg_121 rfl ?_
      refine aw rfl rfl ?_
      refine aw_getfE rfl mg_121 rfl (congrArg Value.int m1) ?_
      refine aw_ialdE rfl mg_130 rfl (by omega) (by decide) mr ?_
      refine aw_igen rfl (fun c124 => by omega) (fun c124 => ?_)
      refine aw_c (v := nI 0) rfl (by decide) ?_
      refine aw_ist (ls' := [_, _, _, _, _]) rfl rfl ?_
      rw [show i * 8 = i * 8 + 0 by rfl]
      refine aw_loop (α := Unit) (ll := fun j y => [some (.ref 121), some (.int (nI 5)), some (.int (nI (ctN (fun s => decide (T.2 0 s = nI 6)) (i * 8 + j)))), some (.int (nI i)), some (.int (nI j))]) (hh := fun j y => (mh g k v pl br lo c ct pr pt cm bf bt)) (I := fun j y => True) (N := T.1 0) (fun j y hj hIj ihj => ?_) (fun y hI => ?_) 0 () (Nat.zero_le _) trivial
      · skip
        have hct := ctN_le (P := fun s => decide (T.2 0 s = nI 6)) (i * 8 + j)
        refine aw rfl rfl ?_
        refine aw rfl rfl ?_
        refine aw_getf rfl mg_121 rfl ?_
        refine aw rfl rfl ?_
        refine aw_getfE rfl mg_121 rfl (congrArg Value.int m1) ?_
        refine aw_ialdE rfl mg_131 rfl (by omega) (by decide) mw ?_
        refine aw_igen rfl (fun c141 => by omega) (fun c141 => ?_)
        refine aw rfl rfl ?_
        refine aw rfl rfl ?_
        refine aw rfl rfl ?_
        refine aw_cv (d1 := 0) (L1 := 0) rfl rfl mg_121 rfl rfl (by decide) (by decide) (Nat.le_of_ble_eq_true rfl) (c_sa hM0 hG0 hj hi ?_)
        refine aw_c (v := nI 6) rfl (by decide) ?_
        refine aw_ine rfl (fun c153 => ?_) (fun c153 => ?_)
        · refine aw_incn (c := 1) (ls' := [_, _, _, _, _]) rfl rfl (by decide) rfl ?_
          refine aw rfl rfl ?_
          have e9 : ctN (fun s => decide (T.2 0 s = nI 6)) (i * 8 + (j + 1)) = ctN (fun s => decide (T.2 0 s = nI 6)) (i * 8 + j) := by rw [show i * 8 + (j + 1) = i * 8 + j + 1 by omega]; show ctN _ (i * 8 + j) + (bif decide _ then 1 else 0) = _; rw [decide_eq_false c153]; rfl
          have ihj := ihj () trivial
          rw [e9] at ihj
          exact ihj
        · refine aw_incn (c := 1) (ls' := [_, _, _, _, _]) rfl rfl (by decide) rfl ?_
          refine aw_incn (c := 1) (ls' := [_, _, _, _, _]) rfl rfl (by decide) rfl ?_
          refine aw rfl rfl ?_
          have e9 : ctN (fun s => decide (T.2 0 s = nI 6)) (i * 8 + (j + 1)) = ctN (fun s => decide (T.2 0 s = nI 6)) (i * 8 + j) + 1 := by rw [show i * 8 + (j + 1) = i * 8 + j + 1 by omega]; show ctN _ (i * 8 + j) + (bif decide _ then 1 else 0) = _; rw [decide_eq_true c153]; rfl
          have ihj := ihj () trivial
          rw [e9] at ihj
          exact ihj
      · skip
        refine aw rfl rfl ?_
        refine aw rfl rfl ?_
        refine aw_getf rfl mg_121 rfl ?_
        refine aw rfl rfl ?_
        refine aw_getfE rfl mg_121 rfl (congrArg Value.int m1) ?_
        refine aw_ialdE rfl mg_131 rfl (by omega) (by decide) mw ?_
        refine aw_igen rfl (fun c141 => ?_) (fun c141 => by omega)
        refine aw_incn (c := 1) (ls' := [_, _, _, _, _]) rfl rfl (by decide) rfl ?_
        refine aw rfl rfl ?_
        have e9 : ctN (fun s => decide (T.2 0 s = nI 6)) ((i + 1) * 8) = ctN (fun s => decide (T.2 0 s = nI 6)) (i * 8 + T.1 0) := by
          have := ctN_z (P := fun s => decide (T.2 0 s = nI 6)) (a := i * 8 + T.1 0) (8 - T.1 0) (fun z h1 h2 => hm_out hG0 (by omega) (Or.inl (by omega)))
          rw [show i * 8 + T.1 0 + (8 - T.1 0) = (i + 1) * 8 by omega] at this
          exact this
        have ihi := ihi (some (.int (nI (T.1 0)))) trivial
        rw [e9] at ihi
        exact ihi
    · skip
      refine aw rfl rfl ?_
      refine aw rfl rfl ?_
      refine aw_getf rfl mg_121 rfl ?_
      refine aw rfl rfl ?_
      refine aw_getfE rfl mg_121 rfl (congrArg Value.int m1) ?_
      refine aw_ialdE rfl mg_130 rfl (by omega) (by decide) mr ?_
      refine aw_igen rfl (fun c124 => ?_) (fun c124 => by omega)
      refine aw rfl rfl ?_
      exact aw_iret rfl rfl (by have := ctN_z (P := fun s => decide (T.2 0 s = nI 6)) (a := T.1 1 * 8) (32 - T.1 1 * 8) (fun z h1 h2 => hm_out hG0 (by omega) (Or.inr (by omega))); rw [show T.1 1 * 8 + (32 - T.1 1 * 8) = 32 by omega] at this; unfold hmc at q; rw [this] at q; exact q)
  by_cases e6 : x = nI 6
  · subst e6
    rw [if_neg (by decide), if_neg (by decide), if_neg (by decide), if_neg (by decide), if_neg (by decide), if_neg (by decide), if_pos rfl] at q
    refine aw rfl rfl ?_
    refine aw_ts (z := 6) (tgt := 173) rfl (by decide) (by decide) ?_
    refine aw rfl rfl ?_
    refine aw_getfE rfl mg_121 rfl (congrArg Value.int a2) ?_
    exact aw_iret rfl rfl q
  by_cases e7 : x = nI 7
  · subst e7
    rw [if_neg (by decide), if_neg (by decide), if_neg (by decide), if_neg (by decide), if_neg (by decide), if_neg (by decide), if_neg (by decide), if_pos rfl] at q
    refine aw rfl rfl ?_
    refine aw_ts (z := 7) (tgt := 178) rfl (by decide) (by decide) ?_
    refine aw rfl rfl ?_
    refine aw_getfE rfl mg_121 rfl (congrArg Value.int u58) ?_
    exact aw_iret rfl rfl q
  by_cases e8 : x = nI 8
  · subst e8
    rw [if_neg (by decide), if_neg (by decide), if_neg (by decide), if_neg (by decide), if_neg (by decide), if_neg (by decide), if_neg (by decide), if_neg (by decide), if_pos rfl] at q
    refine aw rfl rfl ?_
    refine aw_ts (z := 8) (tgt := 183) rfl (by decide) (by decide) ?_
    refine aw rfl rfl ?_
    refine aw_getfE rfl mg_121 rfl (congrArg Value.int t63) ?_
    exact aw_iret rfl rfl q
  by_cases e9 : x = nI 9
  · subst e9
    rw [if_neg (by decide), if_neg (by decide), if_neg (by decide), if_neg (by decide), if_neg (by decide), if_neg (by decide), if_neg (by decide), if_neg (by decide), if_neg (by decide), if_pos rfl] at q
    have e9 : hdc hd = (bif hd 0 then 1 else 0) + (bif hd 1 then 1 else 0) + (bif hd 2 then 1 else 0) := by show 0 + _ + _ + _ = _; rw [Nat.zero_add]
    rw [e9] at q
    have b1 : ∀ b : Bool, bI b = 0 → b = false := by decide
    have b2 : ∀ b : Bool, ¬ bI b = 0 → b = true := by decide
    refine aw rfl rfl ?_
    refine aw_ts (z := 9) (tgt := 188) rfl (by decide) (by decide) ?_
    refine aw rfl rfl ?_
    refine aw_getf rfl mg_121 rfl ?_
    refine aw_c (v := nI 0) rfl (by decide) ?_
    refine aw_bald rfl mg_169 rfl (by omega) (by decide) ?_
    rw [hl0]
    refine aw_eq rfl (fun c194 => ?_) (fun c194 => ?_)
    · refine aw_c (v := nI 0) rfl (by decide) ?_
      refine aw rfl rfl ?_
      refine aw_getf rfl mg_121 rfl ?_
      refine aw_c (v := nI 1) rfl (by decide) ?_
      refine aw_bald rfl mg_169 rfl (by omega) (by decide) ?_
      rw [hl1]
      refine aw_eq rfl (fun c208 => ?_) (fun c208 => ?_)
      · refine aw_c (v := nI 0) rfl (by decide) ?_
        refine aw_addn rfl ?_
        refine aw rfl rfl ?_
        refine aw_getf rfl mg_121 rfl ?_
        refine aw_c (v := nI 2) rfl (by decide) ?_
        refine aw_bald rfl mg_169 rfl (by omega) (by decide) ?_
        rw [hl2]
        refine aw_eq rfl (fun c223 => ?_) (fun c223 => ?_)
        · refine aw_c (v := nI 0) rfl (by decide) ?_
          refine aw_addn rfl ?_
          exact aw_iret rfl rfl (by rw [b1 _ c194, b1 _ c208, b1 _ c223] at q; exact q)
        · refine aw_c (v := nI 1) rfl (by decide) ?_
          refine aw rfl rfl ?_
          refine aw_addn rfl ?_
          exact aw_iret rfl rfl (by rw [b1 _ c194, b1 _ c208, b2 _ c223] at q; exact q)
      · refine aw_c (v := nI 1) rfl (by decide) ?_
        refine aw rfl rfl ?_
        refine aw_addn rfl ?_
        refine aw rfl rfl ?_
        refine aw_getf rfl mg_121 rfl ?_
        refine aw_c (v := nI 2) rfl (by decide) ?_
        refine aw_bald rfl mg_169 rfl (by omega) (by decide) ?_
        rw [hl2]
        refine aw_eq rfl (fun c223 => ?_) (fun c223 => ?_)
        · refine aw_c (v := nI 0) rfl (by decide) ?_
          refine aw_addn rfl ?_
          exact aw_iret rfl rfl (by rw [b1 _ c194, b2 _ c208, b1 _ c223] at q; exact q)
        · refine aw_c (v := nI 1) rfl (by decide) ?_
          refine aw rfl rfl ?_
          refine aw_addn rfl ?_
          exact aw_iret rfl rfl (by rw [b1 _ c194, b2 _ c208, b2 _ c223] at q; exact q)
    · refine aw_c (v := nI 1) rfl (by decide) ?_
      refine aw rfl rfl ?_
      refine aw rfl rfl ?_
      refine aw_getf rfl mg_121 rfl ?_
      refine aw_c (v := nI 1) rfl (by decide) ?_
      refine aw_bald rfl mg_169 rfl (by omega) (by decide) ?_
      rw [hl1]
      refine aw_eq rfl (fun c208 => ?_) (fun c208 => ?_)
      · refine aw_c (v := nI 0) rfl (by decide) ?_
        refine aw_addn rfl ?_
        refine aw rfl rfl ?_
        refine aw_getf rfl mg_121 rfl ?_
        refine aw_c (v := nI 2) rfl (by decide) ?_
        refine aw_bald rfl mg_169 rfl (by omega) (by decide) ?_
        rw [hl2]
        refine aw_eq rfl (fun c223 => ?_) (fun c223 => ?_)
        · refine aw_c (v := nI 0) rfl (by decide) ?_
          refine aw_addn rfl ?_
          exact aw_iret rfl rfl (by rw [b2 _ c194, b1 _ c208, b1 _ c223] at q; exact q)
        · refine aw_c (v := nI 1) rfl (by decide) ?_
          refine aw rfl rfl ?_
          refine aw_addn rfl ?_
          exact aw_iret rfl rfl (by rw [b2 _ c194, b1 _ c208, b2 _ c223] at q; exact q)
      · refine aw_c (v := nI 1) rfl (by decide) ?_
        refine aw rfl rfl ?_
        refine aw_addn rfl ?_
        refine aw rfl rfl ?_
        refine aw_getf rfl mg_121 rfl ?_
        refine aw_c (v := nI 2) rfl (by decide) ?_
        refine aw_bald rfl mg_169 rfl (by omega) (by decide) ?_
        rw [hl2]
        refine aw_eq rfl (fun c223 => ?_) (fun c223 => ?_)
        · refine aw_c (v := nI 0) rfl (by decide) ?_
          refine aw_addn rfl ?_
          exact aw_iret rfl rfl (by rw [b2 _ c194, b2 _ c208, b1 _ c223] at q; exact q)
        · refine aw_c (v := nI 1) rfl (by decide) ?_
          refine aw rfl rfl ?_
          refine aw_addn rfl ?_
          exact aw_iret rfl rfl (by rw [b2 _ c194, b2 _ c208, b2 _ c223] at q; exact q)
  by_cases e10 : x = nI 10
  · subst e10
    rw [if_neg (by decide), if_neg (by decide), if_neg (by decide), if_neg (by decide), if_neg (by decide), if_neg (by decide), if_neg (by decide), if_neg (by decide), if_neg (by decide), if_neg (by decide), if_pos rfl] at q
    refine aw rfl rfl ?_
    refine aw_ts (z := 10) (tgt := 233) rfl (by decide) (by decide) ?_
    refine aw_c (v := nI 0) rfl (by decide) ?_
    refine aw_ist (ls' := [_, _, _, _, _]) rfl rfl ?_
    refine aw_c (v := nI 0) rfl (by decide) ?_
    refine aw_ist (ls' := [_, _, _, _, _]) rfl rfl ?_
    refine aw_loop (α := Unit) (ll := fun i y => [some (.ref 121), some (.int (nI 10)), some (.int (nI (sm (oc T) i))), some (.int (nI i)), none]) (hh := fun i y => (mh g k v pl br lo c ct pr pt cm bf bt)) (I := fun i y => True) (N := T.1 3) (fun i y hi hI ih => ?_) (fun y hI => ?_) 0 () (Nat.zero_le _) trivial
    · skip
      refine aw rfl rfl ?_
      refine aw rfl rfl ?_
      refine aw_getf rfl mg_121 rfl ?_
      refine aw rfl rfl ?_
      refine aw_getfE rfl mg_121 rfl (congrArg Value.int m1) ?_
      refine aw_ialdE rfl mg_134 rfl (by omega) (by decide) mk ?_
      refine aw_igen rfl (fun c247 => by omega) (fun c247 => ?_)
      refine aw rfl rfl ?_
      refine aw rfl rfl ?_
      refine aw_getf rfl mg_121 rfl ?_
      refine aw_c (v := nI 4) rfl (by decide) ?_
      refine aw rfl rfl ?_
      refine aw_getfE rfl mg_121 rfl (congrArg Value.int m1) ?_
      refine aw_muln rfl ?_
      refine aw rfl rfl ?_
      refine aw_addn rfl ?_
      refine aw_ialdE rfl mg_135 rfl (by omega) (by decide) ((moc i hi).trans (goc i hi).1) ?_
      refine aw_addn rfl ?_
      refine aw_ist (ls' := [_, _, _, _, _]) rfl rfl ?_
      refine aw_incn (c := 1) (ls' := [_, _, _, _, _]) rfl rfl (by decide) rfl ?_
      refine aw rfl rfl ?_
      exact ih () trivial
    · skip
      refine aw rfl rfl ?_
      refine aw rfl rfl ?_
      refine aw_getf rfl mg_121 rfl ?_
      refine aw rfl rfl ?_
      refine aw_getfE rfl mg_121 rfl (congrArg Value.int m1) ?_
      refine aw_ialdE rfl mg_134 rfl (by omega) (by decide) mk ?_
      refine aw_igen rfl (fun c247 => ?_) (fun c247 => by omega)
      refine aw rfl rfl ?_
      exact aw_iret rfl rfl q
  rw [if_neg e0, if_neg e1, if_neg e2, if_neg e3, if_neg e4, if_neg e5, if_neg e6, if_neg e7, if_neg e8, if_neg e9, if_neg e10] at q
  have ho := x_out (x := x) (n := 10) (by decide) (fun j hj => by
    have : j = 0 ∨ j = 1 ∨ j = 2 ∨ j = 3 ∨ j = 4 ∨ j = 5 ∨ j = 6 ∨ j = 7 ∨ j = 8 ∨ j = 9 ∨ j = 10 := by omega
    rcases this with rfl | rfl | rfl | rfl | rfl | rfl | rfl | rfl | rfl | rfl | rfl <;> assumption)
  refine aw rfl rfl ?_
  refine aw_ts (tgt := 274) rfl rfl (am_tg_out ho) ?_
  refine aw_c (v := -1) rfl (by decide) ?_
  exact aw_iret rfl rfl q
end M1
