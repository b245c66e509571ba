/-! ===== the reference: touch, brings ===== -/
/-- where a touch lays it now -/
def tcN (T : Sd) (S : Nat → Nat) (x : Int32) : Option Nat := if nI 0 ≤ x ∧ x ≤ nI 3 ∧ S 6 = 0 then tcS T (S 0) x.toNatClampNeg else none
def brV (T : Sd) (LW : LWt) (S : Nat → Nat) (way w : Nat) : Int32 := if w = 3 then (if lnd T LW S way = -1 then nI 1 else nI 0) else if lnd T LW S way = -1 ∧ S 2 = 0 then -2 else (fun l => if w = 0 then nI (l / 3 % 8) else if w = 1 then nI (l / 3 / 8) else nI (l % 3)) (if lnd T LW S way = -1 then S 0 * 3 + S 1 else (lnd T LW S way).toNatClampNeg)
def a_brings (T : Sd) (LW : LWt) (S : Nat → Nat) (x y z : Int32) : Int32 := kin T x fun j => if nI 0 ≤ y ∧ y < nI (oc T j) then sp z 0 3 (fun w => if S 6 = 0 ∧ mck T (S 0 * 3 + S 1) j = true then brV T LW S (6 * j + y.toNatClampNeg) w else -1) else -1
section M1
variable {g : am_H} {k : Mk} {v pl : Nat → Int32} {br lo : Int32} {c ct pr pt cm bf bt : Nat → Int32}
variable {lv : Nat} {T : Sd} {W : Nat → Lw}
variable {S : Nat → Nat} {u td nt cc : Nat} {P Z : Nat → Nat → Nat} {TD : Nat → Nat} {hd : Nat → Bool} {tp : Nat → Int32} {pc : Int32}
theorem c_X11_touch {Q : Option Value → am_H → Prop} (hX : MS k T W S u P td TD hd Z nt tp pc cc) {x : Int32} (hc1 : cc < 1000) (q0 : tcN T S x = none → Q (some (.int (nI 0))) (mh g k v pl br lo c ct pr pt cm bf bt)) (q1 : ∀ s k', tcN T S x = some s → MS k' T W (mvT T S s) (psU u) (psP u P S) td TD hd Z nt tp pc (cc + 1) → Q (some (.int (nI 1))) (mh g k' v pl br lo c ct pr pt cm bf bt)) : AC am_P 4 84 248 [.ref 121, .int x] (mh g k v pl br lo c ct pr pt cm bf bt) Q := by
  refine AC.of (ls := [_, _, _]) rfl ?_
  have hX0 := hX
  obtain ⟨⟨lv, hM⟩, hG, hN, hSC, hH, hT, hL, hA, hpc, hKY, hcc⟩ := hX
  have hS := hSC.1
  have hM0 := hM
  have hG0 := hG
  obtain ⟨m0, m1, mr, mw, mf, mk, mli, mt, ms, msq, moc, mwy, msp, mlw⟩ := hM
  obtain ⟨⟨g0, g0x⟩, ⟨g1, g1x⟩, ⟨g2, g2x⟩, ⟨g3, g3x⟩, g4, ⟨g5, g5x⟩, g6, gsq, goc, gwt, gsp, gfr⟩ := hG
  have hN0 := hN
  have hS0 := hS
  obtain ⟨n0, n1, n2, n3, n4, n5, n6, n7, n8⟩ := hN
  obtain ⟨s0, s1, s2, s3, s4, s5, s6⟩ := hS
  have hl96 := s0.1
  refine aw rfl rfl ?_
  refine aw_c (v := nI 0) rfl (by decide) ?_
  refine aw_c (v := nI 3) rfl (by decide) ?_
  refine aw_cs (d1 := 0) (L1 := 0) rfl rfl (by decide) (by decide) (Nat.le_of_ble_eq_true rfl) (c_X11_in (fun p1 p2 => ?_) (fun p => ?_))
  · refine aw_eq rfl (fun c => absurd c (by decide)) (fun _ => ?_)
    obtain ⟨y, rfl, _, hy⟩ := n_of3 p1 p2 (by decide) (by decide)
    refine aw rfl rfl ?_
    refine aw_cv (d1 := 3) (L1 := 64) rfl rfl mg_121 rfl rfl (by decide) (by decide) (Nat.le_of_ble_eq_true rfl) (c_X11_isOver hM0 hG0 hN0 hS0 (fun z => ?_) (fun z => ?_))
    · refine aw_eq rfl (fun c => absurd c (by decide)) (fun _ => ?_)
      refine aw_c (v := nI 0) rfl (by decide) ?_
      exact aw_iret rfl rfl (q0 (by unfold tcN; rw [if_neg (fun w => z w.2.2)]))
    · refine aw_eq rfl (fun _ => ?_) (fun c => absurd (by decide) c)
      refine aw rfl rfl ?_
      refine aw rfl rfl ?_
      refine aw_cv (d1 := 1) (L1 := 23) rfl rfl mg_121 rfl rfl (by decide) (by decide) (Nat.le_of_ble_eq_true rfl) (c_X11_stateNow hM0 hG0 hN0 hS0 (fun y => absurd y (by omega)) (fun _ => ?_))
      refine aw rfl rfl ?_
      refine aw_cv (d1 := 2) (L1 := 44) rfl rfl mg_121 rfl rfl (by decide) (by decide) (Nat.le_of_ble_eq_true rfl) (c_X11_touched hM0 hG0 s0 (by omega) (by omega) (fun s hu => ?_) (fun hu => ?_))
      · rw [show (S 0 * 3 + S 1) / 3 = S 0 by omega] at hu
        have htc : tcN T S (nI y) = some s := by unfold tcN; rw [if_pos ⟨p1, p2, z⟩, nI_clamp (by omega)]; exact hu
        have hls : lieOK T (s * 3 + S 1) := tcS_lie hG0 (by have := s0.2.1; omega) (by have := s0.2.2.1; omega) (by have := s0.2.2.2.1; omega) hu
        have hls96 := hls.1
        rw [show (S 0 * 3 + S 1) % 3 = S 1 by omega]
        refine aw_ist (ls' := [_, _, _]) rfl rfl ?_
        refine aw rfl rfl ?_
        refine aw_gen rfl ?_
        refine aw rfl rfl ?_
        refine aw_cv (d1 := 0) (L1 := 0) rfl rfl mg_121 rfl rfl (by decide) (by decide) (Nat.le_of_ble_eq_true rfl) (c_X11_copies (fun f hf => ?_))
        refine aw rfl rfl ?_
        refine aw_getf rfl mg_121 rfl ?_
        refine aw_c (v := nI 0) rfl (by decide) ?_
        refine aw rfl rfl ?_
        refine aw_cs (d1 := 0) (L1 := 0) rfl rfl (by decide) (by decide) (Nat.le_of_ble_eq_true rfl) (c_al (by omega) (by omega) ?_)
        rw [show (s * 3 + S 1) / 3 = s by omega]
        refine aw_iastU rfl mg_158 rfl (by omega) (by decide) (by decide) mu_158 ?_
        refine aw rfl rfl ?_
        refine aw_getf rfl mg_121 rfl ?_
        refine aw_c (v := nI 1) rfl (by decide) ?_
        refine aw rfl rfl ?_
        refine aw_cs (d1 := 0) (L1 := 0) rfl rfl (by decide) (by decide) (Nat.le_of_ble_eq_true rfl) (c_ac (by omega) (by omega) ?_)
        rw [show (s * 3 + S 1) / 3 = s by omega]
        refine aw_iastU rfl mg_158 rfl (by omega) (by decide) (by decide) mu_158 ?_
        refine aw rfl rfl ?_
        refine aw_getf rfl mg_121 rfl ?_
        refine aw_c (v := nI 6) rfl (by decide) ?_
        refine aw rfl rfl ?_
        refine aw_ialdE rfl mg_158 rfl (by omega) (by decide) ((hf 6 (by decide)).trans n6) ?_
        refine aw_c (v := nI 1) rfl (by decide) ?_
        refine aw_addn rfl ?_
        refine aw_iastU rfl mg_158 rfl (by omega) (by decide) (by decide) mu_158 ?_
        refine aw rfl rfl ?_
        refine aw_cv (d1 := 1) (L1 := 21) rfl rfl mg_121 rfl rfl (by decide) (by decide) (Nat.le_of_ble_eq_true rfl) (c_X11_keeps (k := (k.1, va_up k.2.1 54 (upd (upd (upd f 0 (nI (s % 8))) 1 (nI (s / 8))) 6 (nI (S 5 + 1))), k.2.2)) (hH.keep (ks2 (i := 54)) (by decide) (by decide)) hN0 hSC (fun k2 hk2 hH2 hn2 => ?_))
        refine aw_c (v := nI 1) rfl (by decide) ?_
        exact aw_iret rfl rfl (by
    refine q1 s _ htc ?_
    have hks := ((ks2 (k := k) (i := 54) (f := upd (upd (upd f 0 (nI (s % 8))) 1 (nI (s / 8))) 6 (nI (S 5 + 1)))).tr hk2).sub (I1 := [58]) (J1 := [54, 59, 53]) (by simp) (by simp)
    have h0 := hX0.keep hks (by decide) (fun i h1 h2 => by simp; omega)
    refine ⟨h0.1, hG0, ?_, hSC.touch hc1 hls, hH2.mono (by omega), hT.keep hks (by decide) (by decide) (by decide), (hL.mono (by omega)).keep hks (by decide) (by decide), hA.keep hks (by decide) (by decide), ?_, h0.2.2, by omega⟩
    · refine NR.congr (f := upd (upd (upd f 0 (nI (s % 8))) 1 (nI (s / 8))) 6 (nI (S 5 + 1))) ?_ hn2
      unfold NR
      exact ⟨rfl, rfl, (hf 2 (by decide)).trans n2, (hf 3 (by decide)).trans n3, (hf 4 (by decide)).trans n4, (hf 5 (by decide)).trans n5, rfl, ((hf 7 (by decide)).trans n7).trans (congrArg nI (by show (if S 6 = 2 then 1 else 0) = if mvT T S s 6 = 2 then 1 else 0; rw [if_neg (by omega), if_neg (show ¬ mvT T S s 6 = 2 from by show ¬ (bif hm T (s * 3 + S 1) then 1 else 0) = 2; cases hm T (s * 3 + S 1) <;> decide)])), (hf 8 (by decide)).trans n8⟩
    · rw [hks.1 17 (by decide)]; exact hpc)
      · refine aw_ist (ls' := [_, _, _]) rfl rfl ?_
        refine aw rfl rfl ?_
        refine aw_ge rfl (fun c => absurd c (by decide)) (fun _ => ?_)
        refine aw_c (v := nI 0) rfl (by decide) ?_
        exact aw_iret rfl rfl (q0 (by unfold tcN; rw [if_pos ⟨p1, p2, z⟩, nI_clamp (by omega)]; rw [show (S 0 * 3 + S 1) / 3 = S 0 by omega] at hu; exact hu))
  · refine aw_eq rfl (fun _ => ?_) (fun c => absurd (by decide) c)
    refine aw_c (v := nI 0) rfl (by decide) ?_
    exact aw_iret rfl rfl (q0 (by unfold tcN; rw [if_neg (fun w => p.elim (fun z => z w.1) (fun z => z w.2.1))]))
theorem n_of2 {x : Int32} {n : Nat} (h1 : nI 0 ≤ x) (h2 : x < nI n) (hn : n < 2147483648) : ∃ j : Nat, x = nI j ∧ j < n := by
  obtain ⟨j, hj, rfl⟩ := nI_of (Int32.not_lt.mpr h1)
  exact ⟨j, rfl, (nI_ltI hj hn).mp h2⟩
theorem n_le1 {x : Int32} {n : Nat} (h : 1 ≤ n) (hn : n < 2147483648) (h2 : x ≤ nI (n - 1)) : x < nI n := Int32.lt_of_le_of_lt h2 (nI_lt (by omega) hn)
theorem not_and_or2 {a b : Prop} (h : ¬ (a ∧ b)) : ¬ a ∨ ¬ b := Classical.byContradiction (fun z => h ⟨Classical.byContradiction (fun y => z (Or.inl y)), Classical.byContradiction (fun y => z (Or.inr y))⟩)
theorem lsg_z {l w : Nat} (h : w = 0) : lsg l w = 384 := if_pos h
theorem lsg_p {l w : Nat} (h : ¬ w = 0) : lsg l w = 4 * l + (w - 1) := if_neg h
theorem c_X11_brings {Q : Option Value → am_H → Prop} (hX : MS k T W S u P td TD hd Z nt tp pc cc) {x y z : Int32} (q : ∀ v pl br lo, Q (some (.int (a_brings T (lwf W) S x y z))) (mh g k v pl br lo c ct pr pt cm bf bt)) : AC am_P 4 107 251 [.ref 121, .int x, .int y, .int z] (mh g k v pl br lo c ct pr pt cm bf bt) Q := by
  refine AC.of (ls := [_, _, _, _, _]) rfl ?_
  have hX0 := hX
  obtain ⟨⟨lv, hM⟩, hG, hN, hSC, hH, hT, hL, hA, hpc, hKY, hcc⟩ := hX
  have hS := hSC.1
  have hM0 := hM
  have hG0 := hG
  obtain ⟨m0, m1, mr, mw, mf, mk, mli, mt, ms, msq, moc, mwy, msp, mlw⟩ := hM
  obtain ⟨⟨g0, g0x⟩, ⟨g1, g1x⟩, ⟨g2, g2x⟩, ⟨g3, g3x⟩, g4, ⟨g5, g5x⟩, g6, gsq, goc, gwt, gsp, gfr⟩ := hG
  have hN0 := hN
  have hS0 := hS
  obtain ⟨n0, n1, n2, n3, n4, n5, n6, n7, n8⟩ := hN
  obtain ⟨s0, s1, s2, s3, s4, s5, s6⟩ := hS
  have hl96 := s0.1
  unfold a_brings at q
  have hls := lsg_lt hl96 (show S 2 < 4 by omega)
  by_cases hx : nI 0 ≤ x ∧ x < nI (T.1 3)
  · obtain ⟨j, rfl, hj⟩ := n_of2 hx.1 hx.2 (by omega)
    rw [kin_yes g3x hj] at q
    have hg := goc j hj
    have ho6 := hg.2.2.1
    have hoc : k.2.1 27 (4 * lv + j) = nI (oc T j) := (moc j hj).trans hg.1
    by_cases hy : nI 0 ≤ y ∧ y < nI (oc T j)
    · obtain ⟨o, rfl, ho⟩ := n_of2 hy.1 hy.2 (by omega)
      rw [if_pos hy] at q
      by_cases hz : nI 0 ≤ z ∧ z ≤ nI 3
      · obtain ⟨w, rfl, _, hw⟩ := n_of3 hz.1 hz.2 (by decide) (by decide)
        rw [sp_in (Nat.zero_le _) hw (by decide), nI_clamp (by omega)] at q
        have hwc : w = 0 ∨ w = 1 ∨ w = 2 ∨ w = 3 := by omega
        by_cases w0 : w = 0
        · subst w0
          by_cases e0 : S 2 = 0
          · rw [lsg_z e0] at hls
            refine aw rfl rfl ?_
            refine aw_c (v := nI 0) rfl (by decide) ?_
            refine aw rfl rfl ?_
            refine aw_getf rfl mg_121 rfl ?_
            refine aw rfl rfl ?_
            refine aw_getfE rfl mg_121 rfl (congrArg Value.int m1) ?_
            refine aw_ialdE rfl mg_134 rfl (by omega) (by decide) mk ?_
            refine aw_c (v := nI 1) rfl (by decide) ?_
            refine aw_subn rfl (by omega) ?_
            refine aw_cs (d1 := 0) (L1 := 0) rfl rfl (by decide) (by decide) (Nat.le_of_ble_eq_true rfl) (c_X11_in (fun p1 p2 => ?_) (fun p => absurd p (fun y => y.elim (fun y => y (nI_pos' (by omega))) (fun y => y (nI_le (by omega) (by omega))))))
            · refine aw_eq rfl (fun c => absurd c (by decide)) (fun _ => ?_)
              refine aw rfl rfl ?_
              refine aw_c (v := nI 0) rfl (by decide) ?_
              refine aw rfl rfl ?_
              refine aw_getf rfl mg_121 rfl ?_
              refine aw_c (v := nI 4) rfl (by decide) ?_
              refine aw rfl rfl ?_
              refine aw_getfE rfl mg_121 rfl (congrArg Value.int m1) ?_
              refine aw_muln rfl ?_
              refine aw rfl rfl ?_
              refine aw_addn rfl ?_
              refine aw_ialdE rfl mg_135 rfl (by omega) (by decide) hoc ?_
              refine aw_c (v := nI 1) rfl (by decide) ?_
              refine aw_subn rfl (by omega) ?_
              refine aw_cs (d1 := 0) (L1 := 0) rfl rfl (by decide) (by decide) (Nat.le_of_ble_eq_true rfl) (c_X11_in (fun p1 p2 => ?_) (fun p => absurd p (fun y => y.elim (fun y => y (nI_pos' (by omega))) (fun y => y (nI_le (by omega) (by omega))))))
              · refine aw_eq rfl (fun c => absurd c (by decide)) (fun _ => ?_)
                refine aw rfl rfl ?_
                refine aw_c (v := nI 0) rfl (by decide) ?_
                refine aw_c (v := nI 3) rfl (by decide) ?_
                refine aw_cs (d1 := 0) (L1 := 0) rfl rfl (by decide) (by decide) (Nat.le_of_ble_eq_true rfl) (c_X11_in (fun p1 p2 => ?_) (fun p => absurd p (fun y => y.elim (fun y => y (by decide)) (fun y => y (by decide)))))
                · refine aw_eq rfl (fun c => absurd c (by decide)) (fun _ => ?_)
                  refine aw rfl rfl ?_
                  refine aw_cv (d1 := 3) (L1 := 64) rfl rfl mg_121 rfl rfl (by decide) (by decide) (Nat.le_of_ble_eq_true rfl) (c_X11_isOver hM0 hG0 hN0 hS0 (fun h6 => ?_) (fun h6 => ?_))
                  · refine aw_ne rfl (fun _ => ?_) (fun c => absurd c (by decide))
                    refine aw_c (v := -1) rfl (by decide) ?_
                    exact aw_iret rfl rfl (by rw [if_neg (fun y => h6 y.1)] at q; exact q _ _ _ _)
                  · refine aw_ne rfl (fun c => absurd (by decide) c) (fun _ => ?_)
                    refine aw rfl rfl ?_
                    refine aw rfl rfl ?_
                    refine aw_cv (d1 := 1) (L1 := 23) rfl rfl mg_121 rfl rfl (by decide) (by decide) (Nat.le_of_ble_eq_true rfl) (c_X11_stateNow hM0 hG0 hN0 hS0 (fun y => absurd y (by omega)) (fun _ => ?_))
                    refine aw rfl rfl ?_
                    refine aw_cv (d1 := 2) (L1 := 43) rfl rfl mg_121 rfl rfl (by decide) (by decide) (Nat.le_of_ble_eq_true rfl) (c_X11_canKick hM0 hG0 s0 (by omega) hj (fun hk => ?_) (fun hk => ?_))
                    · refine aw_ne rfl (fun _ => ?_) (fun c => absurd c (by decide))
                      refine aw rfl rfl ?_
                      refine aw rfl rfl ?_
                      refine aw_cv (d1 := 1) (L1 := 23) rfl rfl mg_121 rfl rfl (by decide) (by decide) (Nat.le_of_ble_eq_true rfl) (c_X11_stateNow hM0 hG0 hN0 hS0 (fun y => absurd y (by omega)) (fun _ => ?_))
                      refine aw rfl rfl ?_
                      refine aw rfl rfl ?_
                      refine aw rfl rfl ?_
                      refine aw_getf rfl mg_121 rfl ?_
                      refine aw_c (v := nI 5) rfl (by decide) ?_
                      refine aw_ialdE rfl mg_157 rfl (by omega) (by decide) n5 ?_
                      refine aw_cv (d1 := 3) (L1 := 75) rfl rfl mg_121 rfl rfl (by decide) (by decide) (Nat.le_of_ble_eq_true rfl) (c_X11_brought hM0 hG0 s0 (by omega) hj ho (fun y v pl br => ?_) (fun m y y2 v pl br => ?_))
                      · rw [lsg_z e0]
                        refine aw_ist (ls' := [_, _, _, _, _]) rfl rfl ?_
                        refine aw rfl rfl ?_
                        refine aw_c (v := nI 3) rfl (by decide) ?_
                        refine aw_ine rfl (fun _ => ?_) (fun c => absurd c (by decide))
                        refine aw rfl rfl ?_
                        refine aw_c (v := nI 384) rfl (by decide) ?_
                        refine aw_ine rfl (fun c => absurd (by decide) c) (fun _ => ?_)
                        refine aw_c (v := -2) rfl (by decide) ?_
                        refine aw rfl rfl ?_
                        exact aw_iret rfl rfl (by rw [if_pos ⟨h6, mck_iff.mpr hk⟩] at q; unfold brV at q; rw [if_neg (by decide), if_pos ⟨(show lnd T (lwf W) S (6 * j + o) = -1 from y), e0⟩] at q; exact q _ _ _ _)
                      · have hm96 := y2.1
                        refine aw_ist (ls' := [_, _, _, _, _]) rfl rfl ?_
                        refine aw rfl rfl ?_
                        refine aw_c (v := nI 3) rfl (by decide) ?_
                        refine aw_ine rfl (fun _ => ?_) (fun c => absurd c (by decide))
                        refine aw rfl rfl ?_
                        refine aw_c (v := nI 384) rfl (by decide) ?_
                        refine aw_inen rfl (fun c113 => ?_) (fun c113 => by omega)
                        refine aw rfl rfl ?_
                        refine aw_ne rfl (fun c => absurd (by decide) c) (fun _ => ?_)
                        refine aw rfl rfl ?_
                        refine aw_cs (d1 := 0) (L1 := 0) rfl rfl (by decide) (by decide) (Nat.le_of_ble_eq_true rfl) (c_al (by omega) (by omega) ?_)
                        refine aw rfl rfl ?_
                        exact aw_iret rfl rfl (by rw [if_pos ⟨h6, mck_iff.mpr hk⟩] at q; unfold brV at q; rw [if_neg (by decide), if_neg (fun yy => (show ¬ lnd T (lwf W) S (6 * j + o) = -1 from by rw [show lnd T (lwf W) S (6 * j + o) = nI m from y]; exact n_m1 (by omega)) yy.1), if_neg (show ¬ lnd T (lwf W) S (6 * j + o) = -1 from by rw [show lnd T (lwf W) S (6 * j + o) = nI m from y]; exact n_m1 (by omega)), show lnd T (lwf W) S (6 * j + o) = nI m from y, nI_clamp (by omega)] at q; exact q _ _ _ _)
                    · refine aw_ne rfl (fun c => absurd (by decide) c) (fun _ => ?_)
                      refine aw_c (v := -1) rfl (by decide) ?_
                      exact aw_iret rfl rfl (by rw [if_neg (fun y => hk (mck_iff.mp y.2))] at q; exact q _ _ _ _)
          · rw [lsg_p e0] at hls
            refine aw rfl rfl ?_
            refine aw_c (v := nI 0) rfl (by decide) ?_
            refine aw rfl rfl ?_
            refine aw_getf rfl mg_121 rfl ?_
            refine aw rfl rfl ?_
            refine aw_getfE rfl mg_121 rfl (congrArg Value.int m1) ?_
            refine aw_ialdE rfl mg_134 rfl (by omega) (by decide) mk ?_
            refine aw_c (v := nI 1) rfl (by decide) ?_
            refine aw_subn rfl (by omega) ?_
            refine aw_cs (d1 := 0) (L1 := 0) rfl rfl (by decide) (by decide) (Nat.le_of_ble_eq_true rfl) (c_X11_in (fun p1 p2 => ?_) (fun p => absurd p (fun y => y.elim (fun y => y (nI_pos' (by omega))) (fun y => y (nI_le (by omega) (by omega))))))
            · refine aw_eq rfl (fun c => absurd c (by decide)) (fun _ => ?_)
              refine aw rfl rfl ?_
              refine aw_c (v := nI 0) rfl (by decide) ?_
              refine aw rfl rfl ?_
              refine aw_getf rfl mg_121 rfl ?_
              refine aw_c (v := nI 4) rfl (by decide) ?_
              refine aw rfl rfl ?_
              refine aw_getfE rfl mg_121 rfl (congrArg Value.int m1) ?_
              refine aw_muln rfl ?_
              refine aw rfl rfl ?_
              refine aw_addn rfl ?_
              refine aw_ialdE rfl mg_135 rfl (by omega) (by decide) hoc ?_
              refine aw_c (v := nI 1) rfl (by decide) ?_
              refine aw_subn rfl (by omega) ?_
              refine aw_cs (d1 := 0) (L1 := 0) rfl rfl (by decide) (by decide) (Nat.le_of_ble_eq_true rfl) (c_X11_in (fun p1 p2 => ?_) (fun p => absurd p (fun y => y.elim (fun y => y (nI_pos' (by omega))) (fun y => y (nI_le (by omega) (by omega))))))
              · refine aw_eq rfl (fun c => absurd c (by decide)) (fun _ => ?_)
                refine aw rfl rfl ?_
                refine aw_c (v := nI 0) rfl (by decide) ?_
                refine aw_c (v := nI 3) rfl (by decide) ?_
                refine aw_cs (d1 := 0) (L1 := 0) rfl rfl (by decide) (by decide) (Nat.le_of_ble_eq_true rfl) (c_X11_in (fun p1 p2 => ?_) (fun p => absurd p (fun y => y.elim (fun y => y (by decide)) (fun y => y (by decide)))))
                · refine aw_eq rfl (fun c => absurd c (by decide)) (fun _ => ?_)
                  refine aw rfl rfl ?_
                  refine aw_cv (d1 := 3) (L1 := 64) rfl rfl mg_121 rfl rfl (by decide) (by decide) (Nat.le_of_ble_eq_true rfl) (c_X11_isOver hM0 hG0 hN0 hS0 (fun h6 => ?_) (fun h6 => ?_))
                  · refine aw_ne rfl (fun _ => ?_) (fun c => absurd c (by decide))
                    refine aw_c (v := -1) rfl (by decide) ?_
                    exact aw_iret rfl rfl (by rw [if_neg (fun y => h6 y.1)] at q; exact q _ _ _ _)
                  · refine aw_ne rfl (fun c => absurd (by decide) c) (fun _ => ?_)
                    refine aw rfl rfl ?_
                    refine aw rfl rfl ?_
                    refine aw_cv (d1 := 1) (L1 := 23) rfl rfl mg_121 rfl rfl (by decide) (by decide) (Nat.le_of_ble_eq_true rfl) (c_X11_stateNow hM0 hG0 hN0 hS0 (fun y => absurd y (by omega)) (fun _ => ?_))
                    refine aw rfl rfl ?_
                    refine aw_cv (d1 := 2) (L1 := 43) rfl rfl mg_121 rfl rfl (by decide) (by decide) (Nat.le_of_ble_eq_true rfl) (c_X11_canKick hM0 hG0 s0 (by omega) hj (fun hk => ?_) (fun hk => ?_))
                    · refine aw_ne rfl (fun _ => ?_) (fun c => absurd c (by decide))
                      refine aw rfl rfl ?_
                      refine aw rfl rfl ?_
                      refine aw_cv (d1 := 1) (L1 := 23) rfl rfl mg_121 rfl rfl (by decide) (by decide) (Nat.le_of_ble_eq_true rfl) (c_X11_stateNow hM0 hG0 hN0 hS0 (fun y => absurd y (by omega)) (fun _ => ?_))
                      refine aw rfl rfl ?_
                      refine aw rfl rfl ?_
                      refine aw rfl rfl ?_
                      refine aw_getf rfl mg_121 rfl ?_
                      refine aw_c (v := nI 5) rfl (by decide) ?_
                      refine aw_ialdE rfl mg_157 rfl (by omega) (by decide) n5 ?_
                      refine aw_cv (d1 := 3) (L1 := 75) rfl rfl mg_121 rfl rfl (by decide) (by decide) (Nat.le_of_ble_eq_true rfl) (c_X11_brought hM0 hG0 s0 (by omega) hj ho (fun y v pl br => ?_) (fun m y y2 v pl br => ?_))
                      · rw [lsg_p e0]
                        refine aw_ist (ls' := [_, _, _, _, _]) rfl rfl ?_
                        refine aw rfl rfl ?_
                        refine aw_c (v := nI 3) rfl (by decide) ?_
                        refine aw_ine rfl (fun _ => ?_) (fun c => absurd c (by decide))
                        refine aw rfl rfl ?_
                        refine aw_c (v := nI 384) rfl (by decide) ?_
                        refine aw_inen rfl (fun c113 => ?_) (fun c113 => by omega)
                        refine aw rfl rfl ?_
                        refine aw_ne rfl (fun c => absurd (by decide) c) (fun _ => ?_)
                        refine aw rfl rfl ?_
                        refine aw_cs (d1 := 0) (L1 := 0) rfl rfl (by decide) (by decide) (Nat.le_of_ble_eq_true rfl) (c_al (by omega) (by omega) ?_)
                        refine aw rfl rfl ?_
                        exact aw_iret rfl rfl (by rw [if_pos ⟨h6, mck_iff.mpr hk⟩] at q; unfold brV at q; rw [if_neg (by decide), if_neg (fun y => e0 y.2), if_pos (show lnd T (lwf W) S (6 * j + o) = -1 from y)] at q; exact q _ _ _ _)
                      · have hm96 := y2.1
                        refine aw_ist (ls' := [_, _, _, _, _]) rfl rfl ?_
                        refine aw rfl rfl ?_
                        refine aw_c (v := nI 3) rfl (by decide) ?_
                        refine aw_ine rfl (fun _ => ?_) (fun c => absurd c (by decide))
                        refine aw rfl rfl ?_
                        refine aw_c (v := nI 384) rfl (by decide) ?_
                        refine aw_inen rfl (fun c113 => ?_) (fun c113 => by omega)
                        refine aw rfl rfl ?_
                        refine aw_ne rfl (fun c => absurd (by decide) c) (fun _ => ?_)
                        refine aw rfl rfl ?_
                        refine aw_cs (d1 := 0) (L1 := 0) rfl rfl (by decide) (by decide) (Nat.le_of_ble_eq_true rfl) (c_al (by omega) (by omega) ?_)
                        refine aw rfl rfl ?_
                        exact aw_iret rfl rfl (by rw [if_pos ⟨h6, mck_iff.mpr hk⟩] at q; unfold brV at q; rw [if_neg (by decide), if_neg (fun yy => (show ¬ lnd T (lwf W) S (6 * j + o) = -1 from by rw [show lnd T (lwf W) S (6 * j + o) = nI m from y]; exact n_m1 (by omega)) yy.1), if_neg (show ¬ lnd T (lwf W) S (6 * j + o) = -1 from by rw [show lnd T (lwf W) S (6 * j + o) = nI m from y]; exact n_m1 (by omega)), show lnd T (lwf W) S (6 * j + o) = nI m from y, nI_clamp (by omega)] at q; exact q _ _ _ _)
                    · refine aw_ne rfl (fun c => absurd (by decide) c) (fun _ => ?_)
                      refine aw_c (v := -1) rfl (by decide) ?_
                      exact aw_iret rfl rfl (by rw [if_neg (fun y => hk (mck_iff.mp y.2))] at q; exact q _ _ _ _)
        by_cases w1 : w = 1
        · subst w1
          by_cases e0 : S 2 = 0
          · rw [lsg_z e0] at hls
            refine aw rfl rfl ?_
            refine aw_c (v := nI 0) rfl (by decide) ?_
            refine aw rfl rfl ?_
            refine aw_getf rfl mg_121 rfl ?_
            refine aw rfl rfl ?_
            refine aw_getfE rfl mg_121 rfl (congrArg Value.int m1) ?_
            refine aw_ialdE rfl mg_134 rfl (by omega) (by decide) mk ?_
            refine aw_c (v := nI 1) rfl (by decide) ?_
            refine aw_subn rfl (by omega) ?_
            refine aw_cs (d1 := 0) (L1 := 0) rfl rfl (by decide) (by decide) (Nat.le_of_ble_eq_true rfl) (c_X11_in (fun p1 p2 => ?_) (fun p => absurd p (fun y => y.elim (fun y => y (nI_pos' (by omega))) (fun y => y (nI_le (by omega) (by omega))))))
            · refine aw_eq rfl (fun c => absurd c (by decide)) (fun _ => ?_)
              refine aw rfl rfl ?_
              refine aw_c (v := nI 0) rfl (by decide) ?_
              refine aw rfl rfl ?_
              refine aw_getf rfl mg_121 rfl ?_
              refine aw_c (v := nI 4) rfl (by decide) ?_
              refine aw rfl rfl ?_
              refine aw_getfE rfl mg_121 rfl (congrArg Value.int m1) ?_
              refine aw_muln rfl ?_
              refine aw rfl rfl ?_
              refine aw_addn rfl ?_
              refine aw_ialdE rfl mg_135 rfl (by omega) (by decide) hoc ?_
              refine aw_c (v := nI 1) rfl (by decide) ?_
              refine aw_subn rfl (by omega) ?_
              refine aw_cs (d1 := 0) (L1 := 0) rfl rfl (by decide) (by decide) (Nat.le_of_ble_eq_true rfl) (c_X11_in (fun p1 p2 => ?_) (fun p => absurd p (fun y => y.elim (fun y => y (nI_pos' (by omega))) (fun y => y (nI_le (by omega) (by omega))))))
              · refine aw_eq rfl (fun c => absurd c (by decide)) (fun _ => ?_)
                refine aw rfl rfl ?_
                refine aw_c (v := nI 0) rfl (by decide) ?_
                refine aw_c (v := nI 3) rfl (by decide) ?_
                refine aw_cs (d1 := 0) (L1 := 0) rfl rfl (by decide) (by decide) (Nat.le_of_ble_eq_true rfl) (c_X11_in (fun p1 p2 => ?_) (fun p => absurd p (fun y => y.elim (fun y => y (by decide)) (fun y => y (by decide)))))
                · refine aw_eq rfl (fun c => absurd c (by decide)) (fun _ => ?_)
                  refine aw rfl rfl ?_
                  refine aw_cv (d1 := 3) (L1 := 64) rfl rfl mg_121 rfl rfl (by decide) (by decide) (Nat.le_of_ble_eq_true rfl) (c_X11_isOver hM0 hG0 hN0 hS0 (fun h6 => ?_) (fun h6 => ?_))
                  · refine aw_ne rfl (fun _ => ?_) (fun c => absurd c (by decide))
                    refine aw_c (v := -1) rfl (by decide) ?_
                    exact aw_iret rfl rfl (by rw [if_neg (fun y => h6 y.1)] at q; exact q _ _ _ _)
                  · refine aw_ne rfl (fun c => absurd (by decide) c) (fun _ => ?_)
                    refine aw rfl rfl ?_
                    refine aw rfl rfl ?_
                    refine aw_cv (d1 := 1) (L1 := 23) rfl rfl mg_121 rfl rfl (by decide) (by decide) (Nat.le_of_ble_eq_true rfl) (c_X11_stateNow hM0 hG0 hN0 hS0 (fun y => absurd y (by omega)) (fun _ => ?_))
                    refine aw rfl rfl ?_
                    refine aw_cv (d1 := 2) (L1 := 43) rfl rfl mg_121 rfl rfl (by decide) (by decide) (Nat.le_of_ble_eq_true rfl) (c_X11_canKick hM0 hG0 s0 (by omega) hj (fun hk => ?_) (fun hk => ?_))
                    · refine aw_ne rfl (fun _ => ?_) (fun c => absurd c (by decide))
                      refine aw rfl rfl ?_
                      refine aw rfl rfl ?_
                      refine aw_cv (d1 := 1) (L1 := 23) rfl rfl mg_121 rfl rfl (by decide) (by decide) (Nat.le_of_ble_eq_true rfl) (c_X11_stateNow hM0 hG0 hN0 hS0 (fun y => absurd y (by omega)) (fun _ => ?_))
                      refine aw rfl rfl ?_
                      refine aw rfl rfl ?_
                      refine aw rfl rfl ?_
                      refine aw_getf rfl mg_121 rfl ?_
                      refine aw_c (v := nI 5) rfl (by decide) ?_
                      refine aw_ialdE rfl mg_157 rfl (by omega) (by decide) n5 ?_
                      refine aw_cv (d1 := 3) (L1 := 75) rfl rfl mg_121 rfl rfl (by decide) (by decide) (Nat.le_of_ble_eq_true rfl) (c_X11_brought hM0 hG0 s0 (by omega) hj ho (fun y v pl br => ?_) (fun m y y2 v pl br => ?_))
                      · rw [lsg_z e0]
                        refine aw_ist (ls' := [_, _, _, _, _]) rfl rfl ?_
                        refine aw rfl rfl ?_
                        refine aw_c (v := nI 3) rfl (by decide) ?_
                        refine aw_ine rfl (fun _ => ?_) (fun c => absurd c (by decide))
                        refine aw rfl rfl ?_
                        refine aw_c (v := nI 384) rfl (by decide) ?_
                        refine aw_ine rfl (fun c => absurd (by decide) c) (fun _ => ?_)
                        refine aw_c (v := -2) rfl (by decide) ?_
                        refine aw rfl rfl ?_
                        exact aw_iret rfl rfl (by rw [if_pos ⟨h6, mck_iff.mpr hk⟩] at q; unfold brV at q; rw [if_neg (by decide), if_pos ⟨(show lnd T (lwf W) S (6 * j + o) = -1 from y), e0⟩] at q; exact q _ _ _ _)
                      · have hm96 := y2.1
                        refine aw_ist (ls' := [_, _, _, _, _]) rfl rfl ?_
                        refine aw rfl rfl ?_
                        refine aw_c (v := nI 3) rfl (by decide) ?_
                        refine aw_ine rfl (fun _ => ?_) (fun c => absurd c (by decide))
                        refine aw rfl rfl ?_
                        refine aw_c (v := nI 384) rfl (by decide) ?_
                        refine aw_inen rfl (fun c113 => ?_) (fun c113 => by omega)
                        refine aw rfl rfl ?_
                        refine aw_ne rfl (fun _ => ?_) (fun c => absurd c (by decide))
                        refine aw rfl rfl ?_
                        refine aw_c (v := nI 1) rfl (by decide) ?_
                        refine aw_ine rfl (fun c => absurd (by decide) c) (fun _ => ?_)
                        refine aw rfl rfl ?_
                        refine aw_cs (d1 := 0) (L1 := 0) rfl rfl (by decide) (by decide) (Nat.le_of_ble_eq_true rfl) (c_ac (by omega) (by omega) ?_)
                        refine aw rfl rfl ?_
                        exact aw_iret rfl rfl (by rw [if_pos ⟨h6, mck_iff.mpr hk⟩] at q; unfold brV at q; rw [if_neg (by decide), if_neg (fun yy => (show ¬ lnd T (lwf W) S (6 * j + o) = -1 from by rw [show lnd T (lwf W) S (6 * j + o) = nI m from y]; exact n_m1 (by omega)) yy.1), if_neg (show ¬ lnd T (lwf W) S (6 * j + o) = -1 from by rw [show lnd T (lwf W) S (6 * j + o) = nI m from y]; exact n_m1 (by omega)), show lnd T (lwf W) S (6 * j + o) = nI m from y, nI_clamp (by omega)] at q; exact q _ _ _ _)
                    · refine aw_ne rfl (fun c => absurd (by decide) c) (fun _ => ?_)
                      refine aw_c (v := -1) rfl (by decide) ?_
                      exact aw_iret rfl rfl (by rw [if_neg (fun y => hk (mck_iff.mp y.2))] at q; exact q _ _ _ _)
          · rw [lsg_p e0] at hls
            refine aw rfl rfl ?_
            refine aw_c (v := nI 0) rfl (by decide) ?_
            refine aw rfl rfl ?_
            refine aw_getf rfl mg_121 rfl ?_
            refine aw rfl rfl ?_
            refine aw_getfE rfl mg_121 rfl (congrArg Value.int m1) ?_
            refine aw_ialdE rfl mg_134 rfl (by omega) (by decide) mk ?_
            refine aw_c (v := nI 1) rfl (by decide) ?_
            refine aw_subn rfl (by omega) ?_
            refine aw_cs (d1 := 0) (L1 := 0) rfl rfl (by decide) (by decide) (Nat.le_of_ble_eq_true rfl) (c_X11_in (fun p1 p2 => ?_) (fun p => absurd p (fun y => y.elim (fun y => y (nI_pos' (by omega))) (fun y => y (nI_le (by omega) (by omega))))))
            · refine aw_eq rfl (fun c => absurd c (by decide)) (fun _ => ?_)
              refine aw rfl rfl ?_
              refine aw_c (v := nI 0) rfl (by decide) ?_
              refine aw rfl rfl ?_
              refine aw_getf rfl mg_121 rfl ?_
              refine aw_c (v := nI 4) rfl (by decide) ?_
              refine aw rfl rfl ?_
              refine aw_getfE rfl mg_121 rfl (congrArg Value.int m1) ?_
              refine aw_muln rfl ?_
              refine aw rfl rfl ?_
              refine aw_addn rfl ?_
              refine aw_ialdE rfl mg_135 rfl (by omega) (by decide) hoc ?_
              refine aw_c (v := nI 1) rfl (by decide) ?_
              refine aw_subn rfl (by omega) ?_
              refine aw_cs (d1 := 0) (L1 := 0) rfl rfl (by decide) (by decide) (Nat.le_of_ble_eq_true rfl) (c_X11_in (fun p1 p2 => ?_) (fun p => absurd p (fun y => y.elim (fun y => y (nI_pos' (by omega))) (fun y => y (nI_le (by omega) (by omega))))))
              · refine aw_eq rfl (fun c => absurd c (by decide)) (fun _ => ?_)
                refine aw rfl rfl ?_
                refine aw_c (v := nI 0) rfl (by decide) ?_
                refine aw_c (v := nI 3) rfl (by decide) ?_
                refine aw_cs (d1 := 0) (L1 := 0) rfl rfl (by decide) (by decide) (Nat.le_of_ble_eq_true rfl) (c_X11_in (fun p1 p2 => ?_) (fun p => absurd p (fun y => y.elim (fun y => y (by decide)) (fun y => y (by decide)))))
                · refine aw_eq rfl (fun c => absurd c (by decide)) (fun _ => ?_)
                  refine aw rfl rfl ?_
                  refine aw_cv (d1 := 3) (L1 := 64) rfl rfl mg_121 rfl rfl (by decide) (by decide) (Nat.le_of_ble_eq_true rfl) (c_X11_isOver hM0 hG0 hN0 hS0 (fun h6 => ?_) (fun h6 => ?_))
                  · refine aw_ne rfl (fun _ => ?_) (fun c => absurd c (by decide))
                    refine aw_c (v := -1) rfl (by decide) ?_
                    exact aw_iret rfl rfl (by rw [if_neg (fun y => h6 y.1)] at q; exact q _ _ _ _)
                  · refine aw_ne rfl (fun c => absurd (by decide) c) (fun _ => ?_)
                    refine aw rfl rfl ?_
                    refine aw rfl rfl ?_
                    refine aw_cv (d1 := 1) (L1 := 23) rfl rfl mg_121 rfl rfl (by decide) (by decide) (Nat.le_of_ble_eq_true rfl) (c_X11_stateNow hM0 hG0 hN0 hS0 (fun y => absurd y (by omega)) (fun _ => ?_))
                    refine aw rfl rfl ?_
                    refine aw_cv (d1 := 2) (L1 := 43) rfl rfl mg_121 rfl rfl (by decide) (by decide) (Nat.le_of_ble_eq_true rfl) (c_X11_canKick hM0 hG0 s0 (by omega) hj (fun hk => ?_) (fun hk => ?_))
                    · refine aw_ne rfl (fun _ => ?_) (fun c => absurd c (by decide))
                      refine aw rfl rfl ?_
                      refine aw rfl rfl ?_
                      refine aw_cv (d1 := 1) (L1 := 23) rfl rfl mg_121 rfl rfl (by decide) (by decide) (Nat.le_of_ble_eq_true rfl) (c_X11_stateNow hM0 hG0 hN0 hS0 (fun y => absurd y (by omega)) (fun _ => ?_))
                      refine aw rfl rfl ?_
                      refine aw rfl rfl ?_
                      refine aw rfl rfl ?_
                      refine aw_getf rfl mg_121 rfl ?_
                      refine aw_c (v := nI 5) rfl (by decide) ?_
                      refine aw_ialdE rfl mg_157 rfl (by omega) (by decide) n5 ?_
                      refine aw_cv (d1 := 3) (L1 := 75) rfl rfl mg_121 rfl rfl (by decide) (by decide) (Nat.le_of_ble_eq_true rfl) (c_X11_brought hM0 hG0 s0 (by omega) hj ho (fun y v pl br => ?_) (fun m y y2 v pl br => ?_))
                      · rw [lsg_p e0]
                        refine aw_ist (ls' := [_, _, _, _, _]) rfl rfl ?_
                        refine aw rfl rfl ?_
                        refine aw_c (v := nI 3) rfl (by decide) ?_
                        refine aw_ine rfl (fun _ => ?_) (fun c => absurd c (by decide))
                        refine aw rfl rfl ?_
                        refine aw_c (v := nI 384) rfl (by decide) ?_
                        refine aw_inen rfl (fun c113 => ?_) (fun c113 => by omega)
                        refine aw rfl rfl ?_
                        refine aw_ne rfl (fun _ => ?_) (fun c => absurd c (by decide))
                        refine aw rfl rfl ?_
                        refine aw_c (v := nI 1) rfl (by decide) ?_
                        refine aw_ine rfl (fun c => absurd (by decide) c) (fun _ => ?_)
                        refine aw rfl rfl ?_
                        refine aw_cs (d1 := 0) (L1 := 0) rfl rfl (by decide) (by decide) (Nat.le_of_ble_eq_true rfl) (c_ac (by omega) (by omega) ?_)
                        refine aw rfl rfl ?_
                        exact aw_iret rfl rfl (by rw [if_pos ⟨h6, mck_iff.mpr hk⟩] at q; unfold brV at q; rw [if_neg (by decide), if_neg (fun y => e0 y.2), if_pos (show lnd T (lwf W) S (6 * j + o) = -1 from y)] at q; exact q _ _ _ _)
                      · have hm96 := y2.1
                        refine aw_ist (ls' := [_, _, _, _, _]) rfl rfl ?_
                        refine aw rfl rfl ?_
                        refine aw_c (v := nI 3) rfl (by decide) ?_
                        refine aw_ine rfl (fun _ => ?_) (fun c => absurd c (by decide))
                        refine aw rfl rfl ?_
                        refine aw_c (v := nI 384) rfl (by decide) ?_
                        refine aw_inen rfl (fun c113 => ?_) (fun c113 => by omega)
                        refine aw rfl rfl ?_
                        refine aw_ne rfl (fun _ => ?_) (fun c => absurd c (by decide))
                        refine aw rfl rfl ?_
                        refine aw_c (v := nI 1) rfl (by decide) ?_
                        refine aw_ine rfl (fun c => absurd (by decide) c) (fun _ => ?_)
                        refine aw rfl rfl ?_
                        refine aw_cs (d1 := 0) (L1 := 0) rfl rfl (by decide) (by decide) (Nat.le_of_ble_eq_true rfl) (c_ac (by omega) (by omega) ?_)
                        refine aw rfl rfl ?_
                        exact aw_iret rfl rfl (by rw [if_pos ⟨h6, mck_iff.mpr hk⟩] at q; unfold brV at q; rw [if_neg (by decide), if_neg (fun yy => (show ¬ lnd T (lwf W) S (6 * j + o) = -1 from by rw [show lnd T (lwf W) S (6 * j + o) = nI m from y]; exact n_m1 (by omega)) yy.1), if_neg (show ¬ lnd T (lwf W) S (6 * j + o) = -1 from by rw [show lnd T (lwf W) S (6 * j + o) = nI m from y]; exact n_m1 (by omega)), show lnd T (lwf W) S (6 * j + o) = nI m from y, nI_clamp (by omega)] at q; exact q _ _ _ _)
                    · refine aw_ne rfl (fun c => absurd (by decide) c) (fun _ => ?_)
                      refine aw_c (v := -1) rfl (by decide) ?_
                      exact aw_iret rfl rfl (by rw [if_neg (fun y => hk (mck_iff.mp y.2))] at q; exact q _ _ _ _)
        by_cases w2 : w = 2
        · subst w2
          by_cases e0 : S 2 = 0
          · rw [lsg_z e0] at hls
            refine aw rfl rfl ?_
            refine aw_c (v := nI 0) rfl (by decide) ?_
            refine aw rfl rfl ?_
            refine aw_getf rfl mg_121 rfl ?_
            refine aw rfl rfl ?_
            refine aw_getfE rfl mg_121 rfl (congrArg Value.int m1) ?_
            refine aw_ialdE rfl mg_134 rfl (by omega) (by decide) mk ?_
            refine aw_c (v := nI 1) rfl (by decide) ?_
            refine aw_subn rfl (by omega) ?_
            refine aw_cs (d1 := 0) (L1 := 0) rfl rfl (by decide) (by decide) (Nat.le_of_ble_eq_true rfl) (c_X11_in (fun p1 p2 => ?_) (fun p => absurd p (fun y => y.elim (fun y => y (nI_pos' (by omega))) (fun y => y (nI_le (by omega) (by omega))))))
            · refine aw_eq rfl (fun c => absurd c (by decide)) (fun _ => ?_)
              refine aw rfl rfl ?_
              refine aw_c (v := nI 0) rfl (by decide) ?_
              refine aw rfl rfl ?_
              refine aw_getf rfl mg_121 rfl ?_
              refine aw_c (v := nI 4) rfl (by decide) ?_
              refine aw rfl rfl ?_
              refine aw_getfE rfl mg_121 rfl (congrArg Value.int m1) ?_
              refine aw_muln rfl ?_
              refine aw rfl rfl ?_
              refine aw_addn rfl ?_
              refine aw_ialdE rfl mg_135 rfl (by omega) (by decide) hoc ?_
              refine aw_c (v := nI 1) rfl (by decide) ?_
              refine aw_subn rfl (by omega) ?_
              refine aw_cs (d1 := 0) (L1 := 0) rfl rfl (by decide) (by decide) (Nat.le_of_ble_eq_true rfl) (c_X11_in (fun p1 p2 => ?_) (fun p => absurd p (fun y => y.elim (fun y => y (nI_pos' (by omega))) (fun y => y (nI_le (by omega) (by omega))))))
              · refine aw_eq rfl (fun c => absurd c (by decide)) (fun _ => ?_)
                refine aw rfl rfl ?_
                refine aw_c (v := nI 0) rfl (by decide) ?_
                refine aw_c (v := nI 3) rfl (by decide) ?_
                refine aw_cs (d1 := 0) (L1 := 0) rfl rfl (by decide) (by decide) (Nat.le_of_ble_eq_true rfl) (c_X11_in (fun p1 p2 => ?_) (fun p => absurd p (fun y => y.elim (fun y => y (by decide)) (fun y => y (by decide)))))
                · refine aw_eq rfl (fun c => absurd c (by decide)) (fun _ => ?_)
                  refine aw rfl rfl ?_
                  refine aw_cv (d1 := 3) (L1 := 64) rfl rfl mg_121 rfl rfl (by decide) (by decide) (Nat.le_of_ble_eq_true rfl) (c_X11_isOver hM0 hG0 hN0 hS0 (fun h6 => ?_) (fun h6 => ?_))
                  · refine aw_ne rfl (fun _ => ?_) (fun c => absurd c (by decide))
                    refine aw_c (v := -1) rfl (by decide) ?_
                    exact aw_iret rfl rfl (by rw [if_neg (fun y => h6 y.1)] at q; exact q _ _ _ _)
                  · refine aw_ne rfl (fun c => absurd (by decide) c) (fun _ => ?_)
                    refine aw rfl rfl ?_
                    refine aw rfl rfl ?_
                    refine aw_cv (d1 := 1) (L1 := 23) rfl rfl mg_121 rfl rfl (by decide) (by decide) (Nat.le_of_ble_eq_true rfl) (c_X11_stateNow hM0 hG0 hN0 hS0 (fun y => absurd y (by omega)) (fun _ => ?_))
                    refine aw rfl rfl ?_
                    refine aw_cv (d1 := 2) (L1 := 43) rfl rfl mg_121 rfl rfl (by decide) (by decide) (Nat.le_of_ble_eq_true rfl) (c_X11_canKick hM0 hG0 s0 (by omega) hj (fun hk => ?_) (fun hk => ?_))
                    · refine aw_ne rfl (fun _ => ?_) (fun c => absurd c (by decide))
                      refine aw rfl rfl ?_
                      refine aw rfl rfl ?_
                      refine aw_cv (d1 := 1) (L1 := 23) rfl rfl mg_121 rfl rfl (by decide) (by decide) (Nat.le_of_ble_eq_true rfl) (c_X11_stateNow hM0 hG0 hN0 hS0 (fun y => absurd y (by omega)) (fun _ => ?_))
                      refine aw rfl rfl ?_
                      refine aw rfl rfl ?_
                      refine aw rfl rfl ?_
                      refine aw_getf rfl mg_121 rfl ?_
                      refine aw_c (v := nI 5) rfl (by decide) ?_
                      refine aw_ialdE rfl mg_157 rfl (by omega) (by decide) n5 ?_
                      refine aw_cv (d1 := 3) (L1 := 75) rfl rfl mg_121 rfl rfl (by decide) (by decide) (Nat.le_of_ble_eq_true rfl) (c_X11_brought hM0 hG0 s0 (by omega) hj ho (fun y v pl br => ?_) (fun m y y2 v pl br => ?_))
                      · rw [lsg_z e0]
                        refine aw_ist (ls' := [_, _, _, _, _]) rfl rfl ?_
                        refine aw rfl rfl ?_
                        refine aw_c (v := nI 3) rfl (by decide) ?_
                        refine aw_ine rfl (fun _ => ?_) (fun c => absurd c (by decide))
                        refine aw rfl rfl ?_
                        refine aw_c (v := nI 384) rfl (by decide) ?_
                        refine aw_ine rfl (fun c => absurd (by decide) c) (fun _ => ?_)
                        refine aw_c (v := -2) rfl (by decide) ?_
                        refine aw rfl rfl ?_
                        exact aw_iret rfl rfl (by rw [if_pos ⟨h6, mck_iff.mpr hk⟩] at q; unfold brV at q; rw [if_neg (by decide), if_pos ⟨(show lnd T (lwf W) S (6 * j + o) = -1 from y), e0⟩] at q; exact q _ _ _ _)
                      · have hm96 := y2.1
                        refine aw_ist (ls' := [_, _, _, _, _]) rfl rfl ?_
                        refine aw rfl rfl ?_
                        refine aw_c (v := nI 3) rfl (by decide) ?_
                        refine aw_ine rfl (fun _ => ?_) (fun c => absurd c (by decide))
                        refine aw rfl rfl ?_
                        refine aw_c (v := nI 384) rfl (by decide) ?_
                        refine aw_inen rfl (fun c113 => ?_) (fun c113 => by omega)
                        refine aw rfl rfl ?_
                        refine aw_ne rfl (fun _ => ?_) (fun c => absurd c (by decide))
                        refine aw rfl rfl ?_
                        refine aw_c (v := nI 1) rfl (by decide) ?_
                        refine aw_ine rfl (fun _ => ?_) (fun c => absurd c (by decide))
                        refine aw rfl rfl ?_
                        refine aw_cs (d1 := 0) (L1 := 0) rfl rfl (by decide) (by decide) (Nat.le_of_ble_eq_true rfl) (c_fc (by omega) (by omega) ?_)
                        exact aw_iret rfl rfl (by rw [if_pos ⟨h6, mck_iff.mpr hk⟩] at q; unfold brV at q; rw [if_neg (by decide), if_neg (fun yy => (show ¬ lnd T (lwf W) S (6 * j + o) = -1 from by rw [show lnd T (lwf W) S (6 * j + o) = nI m from y]; exact n_m1 (by omega)) yy.1), if_neg (show ¬ lnd T (lwf W) S (6 * j + o) = -1 from by rw [show lnd T (lwf W) S (6 * j + o) = nI m from y]; exact n_m1 (by omega)), show lnd T (lwf W) S (6 * j + o) = nI m from y, nI_clamp (by omega)] at q; exact q _ _ _ _)
                    · refine aw_ne rfl (fun c => absurd (by decide) c) (fun _ => ?_)
                      refine aw_c (v := -1) rfl (by decide) ?_
                      exact aw_iret rfl rfl (by rw [if_neg (fun y => hk (mck_iff.mp y.2))] at q; exact q _ _ _ _)
          · rw [lsg_p e0] at hls
            refine aw rfl rfl ?_
            refine aw_c (v := nI 0) rfl (by decide) ?_
            refine aw rfl rfl ?_
            refine aw_getf rfl mg_121 rfl ?_
            refine aw rfl rfl ?_
            refine aw_getfE rfl mg_121 rfl (congrArg Value.int m1) ?_
            refine aw_ialdE rfl mg_134 rfl (by omega) (by decide) mk ?_
            refine aw_c (v := nI 1) rfl (by decide) ?_
            refine aw_subn rfl (by omega) ?_
            refine aw_cs (d1 := 0) (L1 := 0) rfl rfl (by decide) (by decide) (Nat.le_of_ble_eq_true rfl) (c_X11_in (fun p1 p2 => ?_) (fun p => absurd p (fun y => y.elim (fun y => y (nI_pos' (by omega))) (fun y => y (nI_le (by omega) (by omega))))))
            · refine aw_eq rfl (fun c => absurd c (by decide)) (fun _ => ?_)
              refine aw rfl rfl ?_
              refine aw_c (v := nI 0) rfl (by decide) ?_
              refine aw rfl rfl ?_
              refine aw_getf rfl mg_121 rfl ?_
              refine aw_c (v := nI 4) rfl (by decide) ?_
              refine aw rfl rfl ?_
              refine aw_getfE rfl mg_121 rfl (congrArg Value.int m1) ?_
              refine aw_muln rfl ?_
              refine aw rfl rfl ?_
              refine aw_addn rfl ?_
              refine aw_ialdE rfl mg_135 rfl (by omega) (by decide) hoc ?_
              refine aw_c (v := nI 1) rfl (by decide) ?_
              refine aw_subn rfl (by omega) ?_
              refine aw_cs (d1 := 0) (L1 := 0) rfl rfl (by decide) (by decide) (Nat.le_of_ble_eq_true rfl) (c_X11_in (fun p1 p2 => ?_) (fun p => absurd p (fun y => y.elim (fun y => y (nI_pos' (by omega))) (fun y => y (nI_le (by omega) (by omega))))))
              · refine aw_eq rfl (fun c => absurd c (by decide)) (fun _ => ?_)
                refine aw rfl rfl ?_
                refine aw_c (v := nI 0) rfl (by decide) ?_
                refine aw_c (v := nI 3) rfl (by decide) ?_
                refine aw_cs (d1 := 0) (L1 := 0) rfl rfl (by decide) (by decide) (Nat.le_of_ble_eq_true rfl) (c_X11_in (fun p1 p2 => ?_) (fun p => absurd p (fun y => y.elim (fun y => y (by decide)) (fun y => y (by decide)))))
                · refine aw_eq rfl (fun c => absurd c (by decide)) (fun _ => ?_)
                  refine aw rfl rfl ?_
                  refine aw_cv (d1 := 3) (L1 := 64) rfl rfl mg_121 rfl rfl (by decide) (by decide) (Nat.le_of_ble_eq_true rfl) (c_X11_isOver hM0 hG0 hN0 hS0 (fun h6 => ?_) (fun h6 => ?_))
                  · refine aw_ne rfl (fun _ => ?_) (fun c => absurd c (by decide))
                    refine aw_c (v := -1) rfl (by decide) ?_
                    exact aw_iret rfl rfl (by rw [if_neg (fun y => h6 y.1)] at q; exact q _ _ _ _)
                  · refine aw_ne rfl (fun c => absurd (by decide) c) (fun _ => ?_)
                    refine aw rfl rfl ?_
                    refine aw rfl rfl ?_
                    refine aw_cv (d1 := 1) (L1 := 23) rfl rfl mg_121 rfl rfl (by decide) (by decide) (Nat.le_of_ble_eq_true rfl) (c_X11_stateNow hM0 hG0 hN0 hS0 (fun y => absurd y (by omega)) (fun _ => ?_))
                    refine aw rfl rfl ?_
                    refine aw_cv (d1 := 2) (L1 := 43) rfl rfl mg_121 rfl rfl (by decide) (by decide) (Nat.le_of_ble_eq_true rfl) (c_X11_canKick hM0 hG0 s0 (by omega) hj (fun hk => ?_) (fun hk => ?_))
                    · refine aw_ne rfl (fun _ => ?_) (fun c => absurd c (by decide))
                      refine aw rfl rfl ?_
                      refine aw rfl rfl ?_
                      refine aw_cv (d1 := 1) (L1 := 23) rfl rfl mg_121 rfl rfl (by decide) (by decide) (Nat.le_of_ble_eq_true rfl) (c_X11_stateNow hM0 hG0 hN0 hS0 (fun y => absurd y (by omega)) (fun _ => ?_))
                      refine aw rfl rfl ?_
                      refine aw rfl rfl ?_
                      refine aw rfl rfl ?_
                      refine aw_getf rfl mg_121 rfl ?_
                      refine aw_c (v := nI 5) rfl (by decide) ?_
                      refine aw_ialdE rfl mg_157 rfl (by omega) (by decide) n5 ?_
                      refine aw_cv (d1 := 3) (L1 := 75) rfl rfl mg_121 rfl rfl (by decide) (by decide) (Nat.le_of_ble_eq_true rfl) (c_X11_brought hM0 hG0 s0 (by omega) hj ho (fun y v pl br => ?_) (fun m y y2 v pl br => ?_))
                      · rw [lsg_p e0]
                        refine aw_ist (ls' := [_, _, _, _, _]) rfl rfl ?_
                        refine aw rfl rfl ?_
                        refine aw_c (v := nI 3) rfl (by decide) ?_
                        refine aw_ine rfl (fun _ => ?_) (fun c => absurd c (by decide))
                        refine aw rfl rfl ?_
                        refine aw_c (v := nI 384) rfl (by decide) ?_
                        refine aw_inen rfl (fun c113 => ?_) (fun c113 => by omega)
                        refine aw rfl rfl ?_
                        refine aw_ne rfl (fun _ => ?_) (fun c => absurd c (by decide))
                        refine aw rfl rfl ?_
                        refine aw_c (v := nI 1) rfl (by decide) ?_
                        refine aw_ine rfl (fun _ => ?_) (fun c => absurd c (by decide))
                        refine aw rfl rfl ?_
                        refine aw_cs (d1 := 0) (L1 := 0) rfl rfl (by decide) (by decide) (Nat.le_of_ble_eq_true rfl) (c_fc (by omega) (by omega) ?_)
                        exact aw_iret rfl rfl (by rw [if_pos ⟨h6, mck_iff.mpr hk⟩] at q; unfold brV at q; rw [if_neg (by decide), if_neg (fun y => e0 y.2), if_pos (show lnd T (lwf W) S (6 * j + o) = -1 from y)] at q; exact q _ _ _ _)
                      · have hm96 := y2.1
                        refine aw_ist (ls' := [_, _, _, _, _]) rfl rfl ?_
                        refine aw rfl rfl ?_
                        refine aw_c (v := nI 3) rfl (by decide) ?_
                        refine aw_ine rfl (fun _ => ?_) (fun c => absurd c (by decide))
                        refine aw rfl rfl ?_
                        refine aw_c (v := nI 384) rfl (by decide) ?_
                        refine aw_inen rfl (fun c113 => ?_) (fun c113 => by omega)
                        refine aw rfl rfl ?_
                        refine aw_ne rfl (fun _ => ?_) (fun c => absurd c (by decide))
                        refine aw rfl rfl ?_
                        refine aw_c (v := nI 1) rfl (by decide) ?_
                        refine aw_ine rfl (fun _ => ?_) (fun c => absurd c (by decide))
                        refine aw rfl rfl ?_
                        refine aw_cs (d1 := 0) (L1 := 0) rfl rfl (by decide) (by decide) (Nat.le_of_ble_eq_true rfl) (c_fc (by omega) (by omega) ?_)
                        exact aw_iret rfl rfl (by rw [if_pos ⟨h6, mck_iff.mpr hk⟩] at q; unfold brV at q; rw [if_neg (by decide), if_neg (fun yy => (show ¬ lnd T (lwf W) S (6 * j + o) = -1 from by rw [show lnd T (lwf W) S (6 * j + o) = nI m from y]; exact n_m1 (by omega)) yy.1), if_neg (show ¬ lnd T (lwf W) S (6 * j + o) = -1 from by rw [show lnd T (lwf W) S (6 * j + o) = nI m from y]; exact n_m1 (by omega)), show lnd T (lwf W) S (6 * j + o) = nI m from y, nI_clamp (by omega)] at q; exact q _ _ _ _)
                    · refine aw_ne rfl (fun c => absurd (by decide) c) (fun _ => ?_)
                      refine aw_c (v := -1) rfl (by decide) ?_
                      exact aw_iret rfl rfl (by rw [if_neg (fun y => hk (mck_iff.mp y.2))] at q; exact q _ _ _ _)
        by_cases w3 : w = 3
        · subst w3
          refine aw rfl rfl ?_
          refine aw_c (v := nI 0) rfl (by decide) ?_
          refine aw rfl rfl ?_
          refine aw_getf rfl mg_121 rfl ?_
          refine aw rfl rfl ?_
          refine aw_getfE rfl mg_121 rfl (congrArg Value.int m1) ?_
          refine aw_ialdE rfl mg_134 rfl (by omega) (by decide) mk ?_
          refine aw_c (v := nI 1) rfl (by decide) ?_
          refine aw_subn rfl (by omega) ?_
          refine aw_cs (d1 := 0) (L1 := 0) rfl rfl (by decide) (by decide) (Nat.le_of_ble_eq_true rfl) (c_X11_in (fun p1 p2 => ?_) (fun p => absurd p (fun y => y.elim (fun y => y (nI_pos' (by omega))) (fun y => y (nI_le (by omega) (by omega))))))
          · refine aw_eq rfl (fun c => absurd c (by decide)) (fun _ => ?_)
            refine aw rfl rfl ?_
            refine aw_c (v := nI 0) rfl (by decide) ?_
            refine aw rfl rfl ?_
            refine aw_getf rfl mg_121 rfl ?_
            refine aw_c (v := nI 4) rfl (by decide) ?_
            refine aw rfl rfl ?_
            refine aw_getfE rfl mg_121 rfl (congrArg Value.int m1) ?_
            refine aw_muln rfl ?_
            refine aw rfl rfl ?_
            refine aw_addn rfl ?_
            refine aw_ialdE rfl mg_135 rfl (by omega) (by decide) hoc ?_
            refine aw_c (v := nI 1) rfl (by decide) ?_
            refine aw_subn rfl (by omega) ?_
            refine aw_cs (d1 := 0) (L1 := 0) rfl rfl (by decide) (by decide) (Nat.le_of_ble_eq_true rfl) (c_X11_in (fun p1 p2 => ?_) (fun p => absurd p (fun y => y.elim (fun y => y (nI_pos' (by omega))) (fun y => y (nI_le (by omega) (by omega))))))
            · refine aw_eq rfl (fun c => absurd c (by decide)) (fun _ => ?_)
              refine aw rfl rfl ?_
              refine aw_c (v := nI 0) rfl (by decide) ?_
              refine aw_c (v := nI 3) rfl (by decide) ?_
              refine aw_cs (d1 := 0) (L1 := 0) rfl rfl (by decide) (by decide) (Nat.le_of_ble_eq_true rfl) (c_X11_in (fun p1 p2 => ?_) (fun p => absurd p (fun y => y.elim (fun y => y (by decide)) (fun y => y (by decide)))))
              · refine aw_eq rfl (fun c => absurd c (by decide)) (fun _ => ?_)
                refine aw rfl rfl ?_
                refine aw_cv (d1 := 3) (L1 := 64) rfl rfl mg_121 rfl rfl (by decide) (by decide) (Nat.le_of_ble_eq_true rfl) (c_X11_isOver hM0 hG0 hN0 hS0 (fun h6 => ?_) (fun h6 => ?_))
                · refine aw_ne rfl (fun _ => ?_) (fun c => absurd c (by decide))
                  refine aw_c (v := -1) rfl (by decide) ?_
                  exact aw_iret rfl rfl (by rw [if_neg (fun y => h6 y.1)] at q; exact q _ _ _ _)
                · refine aw_ne rfl (fun c => absurd (by decide) c) (fun _ => ?_)
                  refine aw rfl rfl ?_
                  refine aw rfl rfl ?_
                  refine aw_cv (d1 := 1) (L1 := 23) rfl rfl mg_121 rfl rfl (by decide) (by decide) (Nat.le_of_ble_eq_true rfl) (c_X11_stateNow hM0 hG0 hN0 hS0 (fun y => absurd y (by omega)) (fun _ => ?_))
                  refine aw rfl rfl ?_
                  refine aw_cv (d1 := 2) (L1 := 43) rfl rfl mg_121 rfl rfl (by decide) (by decide) (Nat.le_of_ble_eq_true rfl) (c_X11_canKick hM0 hG0 s0 (by omega) hj (fun hk => ?_) (fun hk => ?_))
                  · refine aw_ne rfl (fun _ => ?_) (fun c => absurd c (by decide))
                    refine aw rfl rfl ?_
                    refine aw rfl rfl ?_
                    refine aw_cv (d1 := 1) (L1 := 23) rfl rfl mg_121 rfl rfl (by decide) (by decide) (Nat.le_of_ble_eq_true rfl) (c_X11_stateNow hM0 hG0 hN0 hS0 (fun y => absurd y (by omega)) (fun _ => ?_))
                    refine aw rfl rfl ?_
                    refine aw rfl rfl ?_
                    refine aw rfl rfl ?_
                    refine aw_getf rfl mg_121 rfl ?_
                    refine aw_c (v := nI 5) rfl (by decide) ?_
                    refine aw_ialdE rfl mg_157 rfl (by omega) (by decide) n5 ?_
                    refine aw_cv (d1 := 3) (L1 := 75) rfl rfl mg_121 rfl rfl (by decide) (by decide) (Nat.le_of_ble_eq_true rfl) (c_X11_brought hM0 hG0 s0 (by omega) hj ho (fun y v pl br => ?_) (fun m y y2 v pl br => ?_))
                    · refine aw_ist (ls' := [_, _, _, _, _]) rfl rfl ?_
                      refine aw rfl rfl ?_
                      refine aw_c (v := nI 3) rfl (by decide) ?_
                      refine aw_ine rfl (fun c => absurd (by decide) c) (fun _ => ?_)
                      refine aw rfl rfl ?_
                      refine aw_getf rfl mg_121 rfl ?_
                      refine aw_eq rfl (fun c => absurd c (by decide)) (fun _ => ?_)
                      refine aw_c (v := nI 1) rfl (by decide) ?_
                      refine aw rfl rfl ?_
                      exact aw_iret rfl rfl (by rw [if_pos ⟨h6, mck_iff.mpr hk⟩] at q; unfold brV at q; rw [if_pos rfl, if_pos (show lnd T (lwf W) S (6 * j + o) = -1 from y)] at q; exact q _ _ _ _)
                    · have hm96 := y2.1
                      refine aw_ist (ls' := [_, _, _, _, _]) rfl rfl ?_
                      refine aw rfl rfl ?_
                      refine aw_c (v := nI 3) rfl (by decide) ?_
                      refine aw_ine rfl (fun c => absurd (by decide) c) (fun _ => ?_)
                      refine aw rfl rfl ?_
                      refine aw_getf rfl mg_121 rfl ?_
                      refine aw_eq rfl (fun _ => ?_) (fun c => absurd (by decide) c)
                      refine aw_c (v := nI 0) rfl (by decide) ?_
                      exact aw_iret rfl rfl (by rw [if_pos ⟨h6, mck_iff.mpr hk⟩] at q; unfold brV at q; rw [if_pos rfl, if_neg (show ¬ lnd T (lwf W) S (6 * j + o) = -1 from by rw [show lnd T (lwf W) S (6 * j + o) = nI m from y]; exact n_m1 (by omega))] at q; exact q _ _ _ _)
                  · refine aw_ne rfl (fun c => absurd (by decide) c) (fun _ => ?_)
                    refine aw_c (v := -1) rfl (by decide) ?_
                    exact aw_iret rfl rfl (by rw [if_neg (fun y => hk (mck_iff.mp y.2))] at q; exact q _ _ _ _)
        omega
      · rw [sp_out (not_and_or2 hz)] at q
        refine aw rfl rfl ?_
        refine aw_c (v := nI 0) rfl (by decide) ?_
        refine aw rfl rfl ?_
        refine aw_getf rfl mg_121 rfl ?_
        refine aw rfl rfl ?_
        refine aw_getfE rfl mg_121 rfl (congrArg Value.int m1) ?_
        refine aw_ialdE rfl mg_134 rfl (by omega) (by decide) mk ?_
        refine aw_c (v := nI 1) rfl (by decide) ?_
        refine aw_subn rfl (by omega) ?_
        refine aw_cs (d1 := 0) (L1 := 0) rfl rfl (by decide) (by decide) (Nat.le_of_ble_eq_true rfl) (c_X11_in (fun p1 p2 => ?_) (fun p => absurd p (fun y => y.elim (fun y => y (nI_pos' (by omega))) (fun y => y (nI_le (by omega) (by omega))))))
        · refine aw_eq rfl (fun c => absurd c (by decide)) (fun _ => ?_)
          refine aw rfl rfl ?_
          refine aw_c (v := nI 0) rfl (by decide) ?_
          refine aw rfl rfl ?_
          refine aw_getf rfl mg_121 rfl ?_
          refine aw_c (v := nI 4) rfl (by decide) ?_
          refine aw rfl rfl ?_
          refine aw_getfE rfl mg_121 rfl (congrArg Value.int m1) ?_
          refine aw_muln rfl ?_
          refine aw rfl rfl ?_
          refine aw_addn rfl ?_
          refine aw_ialdE rfl mg_135 rfl (by omega) (by decide) hoc ?_
          refine aw_c (v := nI 1) rfl (by decide) ?_
          refine aw_subn rfl (by omega) ?_
          refine aw_cs (d1 := 0) (L1 := 0) rfl rfl (by decide) (by decide) (Nat.le_of_ble_eq_true rfl) (c_X11_in (fun p1 p2 => ?_) (fun p => absurd p (fun y => y.elim (fun y => y (nI_pos' (by omega))) (fun y => y (nI_le (by omega) (by omega))))))
          · refine aw_eq rfl (fun c => absurd c (by decide)) (fun _ => ?_)
            refine aw rfl rfl ?_
            refine aw_c (v := nI 0) rfl (by decide) ?_
            refine aw_c (v := nI 3) rfl (by decide) ?_
            refine aw_cs (d1 := 0) (L1 := 0) rfl rfl (by decide) (by decide) (Nat.le_of_ble_eq_true rfl) (c_X11_in (fun p1 p2 => absurd ⟨p1, p2⟩ hz) (fun p => ?_))
            · refine aw_eq rfl (fun _ => ?_) (fun c => absurd (by decide) c)
              refine aw_c (v := -1) rfl (by decide) ?_
              exact aw_iret rfl rfl (q _ _ _ _)
    · rw [if_neg hy] at q
      refine aw rfl rfl ?_
      refine aw_c (v := nI 0) rfl (by decide) ?_
      refine aw rfl rfl ?_
      refine aw_getf rfl mg_121 rfl ?_
      refine aw rfl rfl ?_
      refine aw_getfE rfl mg_121 rfl (congrArg Value.int m1) ?_
      refine aw_ialdE rfl mg_134 rfl (by omega) (by decide) mk ?_
      refine aw_c (v := nI 1) rfl (by decide) ?_
      refine aw_subn rfl (by omega) ?_
      refine aw_cs (d1 := 0) (L1 := 0) rfl rfl (by decide) (by decide) (Nat.le_of_ble_eq_true rfl) (c_X11_in (fun p1 p2 => ?_) (fun p => absurd p (fun y => y.elim (fun y => y (nI_pos' (by omega))) (fun y => y (nI_le (by omega) (by omega))))))
      · refine aw_eq rfl (fun c => absurd c (by decide)) (fun _ => ?_)
        refine aw rfl rfl ?_
        refine aw_c (v := nI 0) rfl (by decide) ?_
        refine aw rfl rfl ?_
        refine aw_getf rfl mg_121 rfl ?_
        refine aw_c (v := nI 4) rfl (by decide) ?_
        refine aw rfl rfl ?_
        refine aw_getfE rfl mg_121 rfl (congrArg Value.int m1) ?_
        refine aw_muln rfl ?_
        refine aw rfl rfl ?_
        refine aw_addn rfl ?_
        refine aw_ialdE rfl mg_135 rfl (by omega) (by decide) hoc ?_
        refine aw_c (v := nI 1) rfl (by decide) ?_
        refine aw_subn rfl (by omega) ?_
        refine aw_cs (d1 := 0) (L1 := 0) rfl rfl (by decide) (by decide) (Nat.le_of_ble_eq_true rfl) (c_X11_in (fun p1 p2 => absurd ⟨p1, n_le1 hg.2.1 (by omega) p2⟩ hy) (fun p => ?_))
        · refine aw_eq rfl (fun _ => ?_) (fun c => absurd (by decide) c)
          refine aw_c (v := -1) rfl (by decide) ?_
          exact aw_iret rfl rfl (q _ _ _ _)
  · have hx2 : kin T x (fun j => if nI 0 ≤ y ∧ y < nI (oc T j) then sp z 0 3 (fun w => if S 6 = 0 ∧ mck T (S 0 * 3 + S 1) j = true then brV T (lwf W) S (6 * j + y.toNatClampNeg) w else -1) else -1) = -1 := if_neg hx
    rw [hx2] at q
    refine aw rfl rfl ?_
    refine aw_c (v := nI 0) rfl (by decide) ?_
    refine aw rfl rfl ?_
    refine aw_getf rfl mg_121 rfl ?_
    refine aw rfl rfl ?_
    refine aw_getfE rfl mg_121 rfl (congrArg Value.int m1) ?_
    refine aw_ialdE rfl mg_134 rfl (by omega) (by decide) mk ?_
    refine aw_c (v := nI 1) rfl (by decide) ?_
    refine aw_subn rfl (by omega) ?_
    refine aw_cs (d1 := 0) (L1 := 0) rfl rfl (by decide) (by decide) (Nat.le_of_ble_eq_true rfl) (c_X11_in (fun p1 p2 => absurd ⟨p1, n_le1 g3 (by omega) p2⟩ hx) (fun p => ?_))
    · refine aw_eq rfl (fun _ => ?_) (fun c => absurd (by decide) c)
      refine aw_c (v := -1) rfl (by decide) ?_
      exact aw_iret rfl rfl (q _ _ _ _)
end M1
