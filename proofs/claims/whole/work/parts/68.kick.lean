/-! ===== the class: kick, waits, touch, undo ===== -/
theorem SRl.of {f : Nat → Int32} {S : Nat → Nat} (h0 : f 0 = nI (S 0)) (h1 : f 1 = nI (S 1)) (h2 : f 2 = nI (S 2)) (h3 : f 3 = nI (S 3)) (h4 : f 4 = nI (S 4)) (h5 : f 5 = nI (S 5)) (h6 : f 6 = nI (S 6)) : SRl f S := by
  intro j hj
  have : j = 0 ∨ j = 1 ∨ j = 2 ∨ j = 3 ∨ j = 4 ∨ j = 5 ∨ j = 6 := by omega
  rcases this with rfl | rfl | rfl | rfl | rfl | rfl | rfl <;> assumption
theorem KF.tr {K K1 K2 : Ck} {I J I1 J1 : List Nat} {R R1 : Nat → Prop} (h : KF K K1 I J R) (h1 : KF K1 K2 I1 J1 R1) : KF K K2 (I ++ I1) (J ++ J1) (fun q => R q ∨ R1 q) := ⟨fun n hn => (h1.1 n (fun z => hn (List.mem_append.mpr (Or.inr z)))).trans (h.1 n (fun z => hn (List.mem_append.mpr (Or.inl z)))), fun n hn => (h1.2.1 n (fun z => hn (List.mem_append.mpr (Or.inr z)))).trans (h.2.1 n (fun z => hn (List.mem_append.mpr (Or.inl z)))), fun q hq => (h1.2.2.1 q (fun z => hq (Or.inr z))).trans (h.2.2.1 q (fun z => hq (Or.inl z))), h1.2.2.2.trans h.2.2.2⟩
section C1
variable {g : am_H} {T0 T1 T : Sd} {u0 u1 : Ua} {K : Ck} {rf : Nat → Nat} {p : Nat} {S : Nat → Nat} {u td nt cc : Nat} {P Z : Nat → Nat → Nat} {TD : Nat → Nat} {hd : Nat → Bool} {tp : Nat → Int32} {pc : Int32} {W : Nat → Lw}
variable {no na : Nat} {lf : Nat → Nat}
theorem CS.up (hC : CS g T0 u0 T1 u1 K rf p T W S u P td TD hd Z nt tp pc cc) {v0 v1 : Ua} {K' : Ck} {S' : Nat → Nat} {u' td' nt' cc' : Nat} {P' Z' : Nat → Nat → Nat} {TD' : Nat → Nat} {hd' : Nat → Bool} {tp' : Nat → Int32} {pc' : Int32} {I J : List Nat} {R : Nat → Prop} (hk : KF K K' I J R) (hI : ∀ n, 18 ≤ n → n ≤ 24 → ¬ n ∈ I) (hJ : ∀ n, (n = 102 ∨ n = 104 ∨ n = 106 ∨ n = 107) → ¬ n ∈ J) (h1 : PE T K' S' u' P' td' TD' hd' Z' nt' tp' pc') (h2 : SC T cc' S') (h3 : ∀ i, i < u' → SC T cc' (P' i)) (h4 : ∀ s, s < 3 → hd' s = true → SC T cc' (Z' s)) (h5 : cc' ≤ 1000) : CS g T0 v0 T1 v1 K' rf p T W S' u' P' td' TD' hd' Z' nt' tp' pc' cc' := by
  obtain ⟨c1, c2, ⟨no, na, lf, c3⟩, c4, c5, c6, c7, c8, c9, c10⟩ := hC
  refine ⟨c1, c2, ⟨no, na, lf, ?_⟩, ?_, ?_, h1, h2, h3, h4, h5⟩
  · unfold LLr
    rw [hk.1 18 (hI 18 (by decide) (by decide)), hk.1 19 (hI 19 (by decide) (by decide)), hk.2.1 104 (hJ 104 (by decide))]
    exact c3
  · unfold TB
    rw [hk.2.2.2, hk.2.1 102 (hJ 102 (by decide))]
    exact c4
  · have e6 : K'.2.1 (rf 6) = K.2.1 (rf 6) := hk.2.1 _ (hJ _ (by rcases c1.2.2.2.2.2.2.2.2.2.2.1 with h | h <;> omega))
    have e7 : K'.2.1 (rf 7) = K.2.1 (rf 7) := hk.2.1 _ (hJ _ (by rcases c1.2.2.2.2.2.2.2.2.2.2.2.1 with h | h <;> omega))
    unfold FO
    rw [e6, e7, hk.1 20 (hI 20 (by decide) (by decide)), hk.1 21 (hI 21 (by decide) (by decide)), hk.1 22 (hI 22 (by decide) (by decide)), hk.1 23 (hI 23 (by decide) (by decide)), hk.1 24 (hI 24 (by decide) (by decide))]
    exact c5
theorem c_lose0 {Q : Option Value → am_H → Prop} (h2 : K.2.2.1 46 2 = nI 0) (q : ∀ K', KF K K' [] [] (fun q => q = 46) → K'.2.2.1 46 = va_up (K.2.2.1 46) 6 (nI 2) → Q (some (.int (nI 2))) (ch g T0 u0 T1 u1 K' rf)) : AC am_P 0 0 147 [.ref 8] (ch g T0 u0 T1 u1 K rf) Q := by
  refine AC.of (ls := [_]) rfl ?_
  refine aw rfl rfl ?_
  refine aw_getf rfl cg_8 rfl ?_
  refine aw_getfE rfl cg_46 rfl (congrArg Value.int h2) ?_
  refine aw_ne rfl (fun c => absurd (by decide) c) (fun _ => ?_)
  refine aw rfl rfl ?_
  refine aw_getf rfl cg_8 rfl ?_
  refine aw_c (v := nI 2) rfl (by decide) ?_
  refine aw_putfU rfl cg_46 rfl rfl (by decide) (cps_46 (by decide)) ?_
  refine aw_c (v := nI 2) rfl (by decide) ?_
  exact aw_iret rfl rfl (q _ ⟨fun _ _ => rfl, fun _ _ => rfl, fun q hq => vu_ot hq, rfl⟩ rfl)
theorem c_lose1 {Q : Option Value → am_H → Prop} {w v : Nat} (hw : 0 < w) (hw2 : w < 100) (h2 : K.2.2.1 46 2 = nI w) (h3 : K.2.2.1 46 3 = nI v) (q : ∀ K', KF K K' [] [] (fun q => q = 46) → K'.2.2.1 46 = va_up (va_up (K.2.2.1 46) 2 (nI (w - 1))) 3 (nI (v + 1)) → Q (some (.int (nI 3))) (ch g T0 u0 T1 u1 K' rf)) : AC am_P 0 0 147 [.ref 8] (ch g T0 u0 T1 u1 K rf) Q := by
  refine AC.of (ls := [_]) rfl ?_
  refine aw rfl rfl ?_
  refine aw_getf rfl cg_8 rfl ?_
  refine aw_getfE rfl cg_46 rfl (congrArg Value.int h2) ?_
  refine aw_nen rfl (fun c7 => ?_) (fun c7 => ?_)
  · refine aw rfl rfl ?_
    refine aw_getf rfl cg_8 rfl ?_
    refine aw rfl rfl ?_
    refine aw_getfE rfl cg_46 rfl (congrArg Value.int h2) ?_
    refine aw_c (v := nI 1) rfl (by decide) ?_
    refine aw_subn rfl (by omega) ?_
    refine aw_putfU rfl cg_46 rfl rfl (by decide) (cps_46 (by decide)) ?_
    refine aw rfl rfl ?_
    refine aw_getf rfl cg_8 rfl ?_
    refine aw rfl rfl ?_
    refine aw_getfE rfl cg_46 rfl (congrArg Value.int (show _ = nI v from h3)) ?_
    refine aw_c (v := nI 1) rfl (by decide) ?_
    refine aw_addn rfl ?_
    refine aw_putfU rfl cg_46 rfl rfl (by decide) (cps_46 (by decide)) ?_
    refine aw_c (v := nI 3) rfl (by decide) ?_
    exact aw_iret rfl rfl (q _ ⟨fun _ _ => rfl, fun _ _ => rfl, fun q hq => (vu_ot hq).trans (vu_ot hq), rfl⟩ rfl)
  · refine aw rfl rfl ?_
    refine aw_getf rfl cg_8 rfl ?_
    refine aw_c (v := nI 2) rfl (by decide) ?_
    refine aw_putfU rfl cg_46 rfl rfl (by decide) (cps_46 (by decide)) ?_
    refine aw_c (v := nI 2) rfl (by decide) ?_
    exact absurd c7 (by omega)
theorem c_settle0 {Q : Option Value → am_H → Prop} (h2 : K.2.2.1 46 2 = nI 0) (q : ∀ K', KF K K' [] [] (fun q => q = 46) → K'.2.2.1 46 = va_up (K.2.2.1 46) 6 (nI 2) → Q (some (.int (nI 2))) (ch g T0 u0 T1 u1 K' rf)) : AC am_P 1 21 146 [.ref 8, .int (-1)] (ch g T0 u0 T1 u1 K rf) Q := by
  refine AC.of (ls := [_, _]) rfl ?_
  refine aw rfl rfl ?_
  refine aw_c (v := -1) rfl (by decide) ?_
  refine aw_ine rfl (fun c => absurd (by decide) c) (fun _ => ?_)
  refine aw rfl rfl ?_
  refine aw_cv (d1 := 0) (L1 := 0) rfl rfl cg_8 rfl rfl (by decide) (by decide) (Nat.le_of_ble_eq_true rfl) (c_lose0 h2 (fun K9 k1 k2 => ?_))
  exact aw_iret rfl rfl (q _ k1 k2)
theorem c_settle1 {Q : Option Value → am_H → Prop} {w v : Nat} (hw : 0 < w) (hw2 : w < 100) (h2 : K.2.2.1 46 2 = nI w) (h3 : K.2.2.1 46 3 = nI v) (q : ∀ K', KF K K' [] [] (fun q => q = 46) → K'.2.2.1 46 = va_up (va_up (K.2.2.1 46) 2 (nI (w - 1))) 3 (nI (v + 1)) → Q (some (.int (nI 3))) (ch g T0 u0 T1 u1 K' rf)) : AC am_P 1 21 146 [.ref 8, .int (-1)] (ch g T0 u0 T1 u1 K rf) Q := by
  refine AC.of (ls := [_, _]) rfl ?_
  refine aw rfl rfl ?_
  refine aw_c (v := -1) rfl (by decide) ?_
  refine aw_ine rfl (fun c => absurd (by decide) c) (fun _ => ?_)
  refine aw rfl rfl ?_
  refine aw_cv (d1 := 0) (L1 := 0) rfl rfl cg_8 rfl rfl (by decide) (by decide) (Nat.le_of_ble_eq_true rfl) (c_lose1 hw hw2 h2 h3 (fun K9 k1 k2 => ?_))
  exact aw_iret rfl rfl (q _ k1 k2)
theorem c_settleM {Q : Option Value → am_H → Prop} (hp : SP2 p T T0 T1) (hr0 : rf 0 = p) {m : Nat} (hm9 : m < 96) (q : ∀ K', KF K K' [] [] (fun q => q = 46) → K'.2.2.1 46 = va_up (va_up (va_up (K.2.2.1 46) 0 (nI (m / 3))) 1 (nI (m % 3))) 6 (bif hm T m then nI 1 else nI 0) → Q (some (.int (bif hm T m then nI 1 else nI 0))) (ch g T0 u0 T1 u1 K' rf)) : AC am_P 1 21 146 [.ref 8, .int (nI m)] (ch g T0 u0 T1 u1 K rf) Q := by
  refine AC.of (ls := [_, _]) rfl ?_
  refine aw rfl rfl ?_
  refine aw_c (v := -1) rfl (by decide) ?_
  refine aw_inem rfl ?_
  refine aw rfl rfl ?_
  refine aw_getf rfl cg_8 rfl ?_
  refine aw rfl rfl ?_
  refine aw_c (v := nI 3) rfl (by decide) ?_
  refine aw_divn rfl (by omega) (by omega) (by omega) ?_
  refine aw_putfU rfl cg_46 rfl rfl (by decide) (cps_46 (by decide)) ?_
  refine aw rfl rfl ?_
  refine aw_getf rfl cg_8 rfl ?_
  refine aw rfl rfl ?_
  refine aw_c (v := nI 3) rfl (by decide) ?_
  refine aw_remn rfl (by omega) (by omega) (by omega) ?_
  refine aw_putfU rfl cg_46 rfl rfl (by decide) (cps_46 (by decide)) ?_
  refine aw rfl rfl ?_
  refine aw_getf rfl cg_8 rfl ?_
  refine aw rfl rfl ?_
  refine aw_getfE rfl cg_8 rfl (congrArg Value.ref hr0) ?_
  refine aw rfl rfl ?_
  refine aw_getf rfl cg_8 rfl ?_
  refine aw_getfE rfl cg_46 rfl (congrArg Value.int (show _ = nI (m / 3) from rfl)) ?_
  refine aw_cv (d1 := 0) (L1 := 0) rfl rfl (sa hp).1 rfl rfl (by decide) (by decide) (Nat.le_of_ble_eq_true rfl) (c_X7_sortOf (sa hp) (by omega) ?_)
  refine aw_c (v := nI 6) rfl (by decide) ?_
  refine aw_ine rfl (fun c50 => ?_) (fun c50 => ?_)
  · refine aw_c (v := nI 0) rfl (by decide) ?_
    refine aw_putfU rfl cg_46 rfl rfl (by decide) (cps_46 (by decide)) ?_
    refine aw rfl rfl ?_
    refine aw_getf rfl cg_8 rfl ?_
    refine aw_getfE rfl cg_46 rfl (congrArg Value.int (show _ = nI 0 from rfl)) ?_
    exact aw_iret rfl rfl (by rw [show hm T m = false from decide_eq_false c50, cond_false] at q; exact q _ ⟨fun _ _ => rfl, fun _ _ => rfl, fun q hq => (vu_ot hq).trans ((vu_ot hq).trans (vu_ot hq)), rfl⟩ rfl)
  · refine aw_c (v := nI 1) rfl (by decide) ?_
    refine aw rfl rfl ?_
    refine aw_putfU rfl cg_46 rfl rfl (by decide) (cps_46 (by decide)) ?_
    refine aw rfl rfl ?_
    refine aw_getf rfl cg_8 rfl ?_
    refine aw_getfE rfl cg_46 rfl (congrArg Value.int (show _ = nI 1 from rfl)) ?_
    exact aw_iret rfl rfl (by rw [show hm T m = true from decide_eq_true c50, cond_true] at q; exact q _ ⟨fun _ _ => rfl, fun _ _ => rfl, fun q hq => (vu_ot hq).trans ((vu_ot hq).trans (vu_ot hq)), rfl⟩ rfl)
theorem c_X10_comeBy {Q : Option Value → am_H → Prop} (hC : CS g T0 u0 T1 u1 K rf p T W S u P td TD hd Z nt tp pc cc) {way : Nat} (hc1 : cc < 1000) (h6 : S 6 = 0) (hway : way = 24 ∨ ∃ j o, j < T.1 3 ∧ o < oc T j ∧ way = 6 * j + o) (q : ∀ u0 u1 K', CS g T0 u0 T1 u1 K' rf p T W (mvS T (lwf W) S way) (psU u) (psP u P S) td TD hd Z nt tp pc (cc + 1) → K'.2.2.2.2 = K.2.2.2.2 → Q (some (.int (mvA T (lwf W) S way))) (ch g T0 u0 T1 u1 K' rf)) : AC am_P 4 100 144 [.ref 8, .int (nI way)] (ch g T0 u0 T1 u1 K rf) Q := by
  refine AC.of (ls := [_, _, _]) rfl ?_
  have hp := hC.cx.1
  have hG := hC.cx.2.1
  have hG0 := hG
  obtain ⟨⟨g0, g0x⟩, ⟨g1, g1x⟩, ⟨g2, g2x⟩, ⟨g3, g3x⟩, g4, ⟨g5, g5x⟩, g6, gsq, goc, gwt, gsp, gfr⟩ := hG
  obtain ⟨s0, s1, s2, s3, s4, s5, s6⟩ := hC.sc
  have hl96 := s0.1
  have hsc := hC.2.2.2.2.2.2.1
  have hscP := hC.2.2.2.2.2.2.2.1
  have hscZ := hC.2.2.2.2.2.2.2.2.1
  unfold mvS mvA at q
  have hld := n_land_lie (LW := lwf W) (x := nI (S 4 * T.1 5)) hG0 s0 hway
  have hop : hm T (S 0 * 3 + S 1) = false := by rcases s6 with h | h | h; omega; omega; exact h.1
  rcases hld with yl | ⟨m, hm9, yl⟩
  · have yl2 : lnd T (lwf W) S way = -1 := yl
    rw [if_pos yl2, if_pos yl2] at q
    by_cases e0 : S 2 = 0
    · rw [if_pos e0, if_pos e0] at q
      refine aw rfl rfl ?_
      refine aw_getf rfl cg_8 rfl ?_
      refine aw rfl rfl ?_
      refine aw_getf rfl cg_8 rfl ?_
      refine aw_cv (d1 := 1) (L1 := 21) rfl rfl cg_47 rfl rfl (by decide) (by decide) (Nat.le_of_ble_eq_true rfl) (c_X2_keep hC.ps hC.st (fun K1 k1 k2 => ?_))
      have hst1 : SRl (K1.2.2.1 46) S := by rw [k1.2.2.1 46 (by unfold rgP; omega)]; exact hC.st
      refine aw rfl rfl ?_
      refine aw_getfE rfl cg_8 rfl (congrArg Value.ref hC.cx.2.2.2.2.2.1) ?_
      refine aw rfl rfl ?_
      refine aw_getf rfl cg_8 rfl ?_
      refine aw_cv (d1 := 1) (L1 := 21) rfl rfl cg_46 rfl rfl (by decide) (by decide) (Nat.le_of_ble_eq_true rfl) (c_X6_lie hst1 ?_)
      refine aw rfl rfl ?_
      refine aw rfl rfl ?_
      refine aw_getf rfl cg_8 rfl ?_
      refine aw_getfE rfl cg_46 rfl (congrArg Value.int (hst1 4 (by decide))) ?_
      refine aw rfl rfl ?_
      refine aw_getfE rfl cg_8 rfl (congrArg Value.ref hC.cx.2.2.2.2.2.1) ?_
      refine aw_getf rfl (sa hp).1 rfl ?_
      refine aw_muln rfl ?_
      refine aw_cv (d1 := 3) (L1 := 70) rfl rfl (sa hp).1 rfl rfl (by decide) (by decide) (Nat.le_of_ble_eq_true rfl) (c_land (LW := lwf W) hp hG0 hC.cx.2.2.1 hl96 hway (fun u0 u1 => ?_))
      · rw [yl]
        refine aw_ist (ls' := [_, _, _]) rfl rfl ?_
        refine aw rfl rfl ?_
        refine aw_getf rfl cg_8 rfl ?_
        refine aw rfl rfl ?_
        refine aw_getfE rfl cg_46 rfl (congrArg Value.int (hst1 4 (by decide))) ?_
        refine aw_c (v := nI 1) rfl (by decide) ?_
        refine aw_addn rfl ?_
        refine aw_putfU rfl cg_46 rfl rfl (by decide) (cps_46 (by decide)) ?_
        refine aw rfl rfl ?_
        refine aw rfl rfl ?_
        refine aw_cv (d1 := 1) (L1 := 21) rfl rfl cg_8 rfl rfl (by decide) (by decide) (Nat.le_of_ble_eq_true rfl) (c_settle0 (K := (K1.1, K1.2.1, va_up K1.2.2.1 46 (va_up (K1.2.2.1 46) 4 (nI (S 4 + 1))), K1.2.2.2)) ((hst1 2 (by decide)).trans (congrArg nI e0)) (fun K9 kf kv => ?_))
        exact aw_iret rfl rfl (by
      have hka : KF K (K1.1, K1.2.1, va_up K1.2.2.1 46 (va_up (K1.2.2.1 46) 4 (nI (S 4 + 1))), K1.2.2.2) [16, 17] [] (fun q => rgP q ∨ q = 46) := (k1.tr (I1 := []) (J1 := []) (R1 := fun q => q = 46) ⟨fun _ _ => rfl, fun _ _ => rfl, fun q hq => vu_ot hq, rfl⟩)
      have hkf := hka.tr kf
      refine q u0 u1 K9 (hC.up hkf (fun n h1 h2 => by simp; omega) (fun n h1 => by simp) ⟨?_, ?_, ?_, ?_, ?_, ?_⟩ (hsc.lost hc1) ?_ ?_ (by omega)) ?_
      · rw [kv]; exact SRl.of (hst1 0 (by decide)) (hst1 1 (by decide)) (hst1 2 (by decide)) (hst1 3 (by decide)) rfl (hst1 5 (by decide)) rfl
      · have e1 := kf.1 16 (by simp)
        have e2 := kf.1 17 (by simp)
        refine ⟨k2.1, e2.trans k2.2.1, ?_⟩
        obtain ⟨nx, a1, a2, a3⟩ := k2.2.2
        exact ⟨nx, a1, e1.trans a2, fun i hi => by rw [kf.2.2.1 _ (by omega)]; show SRl (va_up K1.2.2.1 46 _ _) _; rw [vu_ot (by omega)]; exact a3 i hi⟩
      · intro s hs
        rw [hkf.2.2.1 _ (by unfold rgP; omega)]
        exact hC.sl s hs
      · rw [hkf.1 25 (by simp), hkf.2.1 114 (by simp)]; exact hC.tdr
      · rw [hkf.1 0 (by simp), hkf.2.1 9 (by simp)]; exact hC.ta
      · rw [hkf.1 1 (by simp)]; exact hC.pl
      · intro i hi
        unfold psP
        unfold psU at hi
        by_cases e : u = 50
        · rw [if_pos e] at hi ⊢
          split
          · exact hsc.mono (by omega)
          · exact (hscP (i + 1) (by omega)).mono (by omega)
        · rw [if_neg e] at hi ⊢
          split
          · exact hsc.mono (by omega)
          · exact (hscP i (by omega)).mono (by omega)
      · exact fun s h1 h2 => (hscZ s h1 h2).mono (by omega)
      · exact congrArg (fun z => z.2) hkf.2.2.2)
    · rw [if_neg e0, if_neg e0] at q
      refine aw rfl rfl ?_
      refine aw_getf rfl cg_8 rfl ?_
      refine aw rfl rfl ?_
      refine aw_getf rfl cg_8 rfl ?_
      refine aw_cv (d1 := 1) (L1 := 21) rfl rfl cg_47 rfl rfl (by decide) (by decide) (Nat.le_of_ble_eq_true rfl) (c_X2_keep hC.ps hC.st (fun K1 k1 k2 => ?_))
      have hst1 : SRl (K1.2.2.1 46) S := by rw [k1.2.2.1 46 (by unfold rgP; omega)]; exact hC.st
      refine aw rfl rfl ?_
      refine aw_getfE rfl cg_8 rfl (congrArg Value.ref hC.cx.2.2.2.2.2.1) ?_
      refine aw rfl rfl ?_
      refine aw_getf rfl cg_8 rfl ?_
      refine aw_cv (d1 := 1) (L1 := 21) rfl rfl cg_46 rfl rfl (by decide) (by decide) (Nat.le_of_ble_eq_true rfl) (c_X6_lie hst1 ?_)
      refine aw rfl rfl ?_
      refine aw rfl rfl ?_
      refine aw_getf rfl cg_8 rfl ?_
      refine aw_getfE rfl cg_46 rfl (congrArg Value.int (hst1 4 (by decide))) ?_
      refine aw rfl rfl ?_
      refine aw_getfE rfl cg_8 rfl (congrArg Value.ref hC.cx.2.2.2.2.2.1) ?_
      refine aw_getf rfl (sa hp).1 rfl ?_
      refine aw_muln rfl ?_
      refine aw_cv (d1 := 3) (L1 := 70) rfl rfl (sa hp).1 rfl rfl (by decide) (by decide) (Nat.le_of_ble_eq_true rfl) (c_land (LW := lwf W) hp hG0 hC.cx.2.2.1 hl96 hway (fun u0 u1 => ?_))
      · rw [yl]
        refine aw_ist (ls' := [_, _, _]) rfl rfl ?_
        refine aw rfl rfl ?_
        refine aw_getf rfl cg_8 rfl ?_
        refine aw rfl rfl ?_
        refine aw_getfE rfl cg_46 rfl (congrArg Value.int (hst1 4 (by decide))) ?_
        refine aw_c (v := nI 1) rfl (by decide) ?_
        refine aw_addn rfl ?_
        refine aw_putfU rfl cg_46 rfl rfl (by decide) (cps_46 (by decide)) ?_
        refine aw rfl rfl ?_
        refine aw rfl rfl ?_
        refine aw_cv (d1 := 1) (L1 := 21) rfl rfl cg_8 rfl rfl (by decide) (by decide) (Nat.le_of_ble_eq_true rfl) (c_settle1 (K := (K1.1, K1.2.1, va_up K1.2.2.1 46 (va_up (K1.2.2.1 46) 4 (nI (S 4 + 1))), K1.2.2.2)) (w := S 2) (v := S 3) (by omega) (by omega) (hst1 2 (by decide)) (hst1 3 (by decide)) (fun K9 kf kv => ?_))
        exact aw_iret rfl rfl (by
      have hka : KF K (K1.1, K1.2.1, va_up K1.2.2.1 46 (va_up (K1.2.2.1 46) 4 (nI (S 4 + 1))), K1.2.2.2) [16, 17] [] (fun q => rgP q ∨ q = 46) := (k1.tr (I1 := []) (J1 := []) (R1 := fun q => q = 46) ⟨fun _ _ => rfl, fun _ _ => rfl, fun q hq => vu_ot hq, rfl⟩)
      have hkf := hka.tr kf
      refine q u0 u1 K9 (hC.up hkf (fun n h1 h2 => by simp; omega) (fun n h1 => by simp) ⟨?_, ?_, ?_, ?_, ?_, ?_⟩ (hsc.move hc1 s0 (show S 2 - 1 + 1 = S 2 by omega) g4) ?_ ?_ (by omega)) ?_
      · rw [kv]; exact SRl.of ((hst1 0 (by decide)).trans (congrArg nI (show S 0 = (S 0 * 3 + S 1) / 3 by omega))) ((hst1 1 (by decide)).trans (congrArg nI (show S 1 = (S 0 * 3 + S 1) % 3 by omega))) rfl rfl rfl (hst1 5 (by decide)) ((hst1 6 (by decide)).trans (congrArg nI (show S 6 = bif hm T (S 0 * 3 + S 1) then 1 else 0 by rw [hop, h6]; rfl)))
      · have e1 := kf.1 16 (by simp)
        have e2 := kf.1 17 (by simp)
        refine ⟨k2.1, e2.trans k2.2.1, ?_⟩
        obtain ⟨nx, a1, a2, a3⟩ := k2.2.2
        exact ⟨nx, a1, e1.trans a2, fun i hi => by rw [kf.2.2.1 _ (by omega)]; show SRl (va_up K1.2.2.1 46 _ _) _; rw [vu_ot (by omega)]; exact a3 i hi⟩
      · intro s hs
        rw [hkf.2.2.1 _ (by unfold rgP; omega)]
        exact hC.sl s hs
      · rw [hkf.1 25 (by simp), hkf.2.1 114 (by simp)]; exact hC.tdr
      · rw [hkf.1 0 (by simp), hkf.2.1 9 (by simp)]; exact hC.ta
      · rw [hkf.1 1 (by simp)]; exact hC.pl
      · intro i hi
        unfold psP
        unfold psU at hi
        by_cases e : u = 50
        · rw [if_pos e] at hi ⊢
          split
          · exact hsc.mono (by omega)
          · exact (hscP (i + 1) (by omega)).mono (by omega)
        · rw [if_neg e] at hi ⊢
          split
          · exact hsc.mono (by omega)
          · exact (hscP i (by omega)).mono (by omega)
      · exact fun s h1 h2 => (hscZ s h1 h2).mono (by omega)
      · exact congrArg (fun z => z.2) hkf.2.2.2)
  · have hm96 := hm9.1
    have yl2 : lnd T (lwf W) S way = nI m := yl
    rw [if_neg (by rw [yl2]; exact n_m1 (by omega)), if_neg (by rw [yl2]; exact n_m1 (by omega)), yl2, nI_clamp (by omega)] at q
    refine aw rfl rfl ?_
    refine aw_getf rfl cg_8 rfl ?_
    refine aw rfl rfl ?_
    refine aw_getf rfl cg_8 rfl ?_
    refine aw_cv (d1 := 1) (L1 := 21) rfl rfl cg_47 rfl rfl (by decide) (by decide) (Nat.le_of_ble_eq_true rfl) (c_X2_keep hC.ps hC.st (fun K1 k1 k2 => ?_))
    have hst1 : SRl (K1.2.2.1 46) S := by rw [k1.2.2.1 46 (by unfold rgP; omega)]; exact hC.st
    refine aw rfl rfl ?_
    refine aw_getfE rfl cg_8 rfl (congrArg Value.ref hC.cx.2.2.2.2.2.1) ?_
    refine aw rfl rfl ?_
    refine aw_getf rfl cg_8 rfl ?_
    refine aw_cv (d1 := 1) (L1 := 21) rfl rfl cg_46 rfl rfl (by decide) (by decide) (Nat.le_of_ble_eq_true rfl) (c_X6_lie hst1 ?_)
    refine aw rfl rfl ?_
    refine aw rfl rfl ?_
    refine aw_getf rfl cg_8 rfl ?_
    refine aw_getfE rfl cg_46 rfl (congrArg Value.int (hst1 4 (by decide))) ?_
    refine aw rfl rfl ?_
    refine aw_getfE rfl cg_8 rfl (congrArg Value.ref hC.cx.2.2.2.2.2.1) ?_
    refine aw_getf rfl (sa hp).1 rfl ?_
    refine aw_muln rfl ?_
    refine aw_cv (d1 := 3) (L1 := 70) rfl rfl (sa hp).1 rfl rfl (by decide) (by decide) (Nat.le_of_ble_eq_true rfl) (c_land (LW := lwf W) hp hG0 hC.cx.2.2.1 hl96 hway (fun u0 u1 => ?_))
    rw [yl]
    refine aw_ist (ls' := [_, _, _]) rfl rfl ?_
    refine aw rfl rfl ?_
    refine aw_getf rfl cg_8 rfl ?_
    refine aw rfl rfl ?_
    refine aw_getfE rfl cg_46 rfl (congrArg Value.int (hst1 4 (by decide))) ?_
    refine aw_c (v := nI 1) rfl (by decide) ?_
    refine aw_addn rfl ?_
    refine aw_putfU rfl cg_46 rfl rfl (by decide) (cps_46 (by decide)) ?_
    refine aw rfl rfl ?_
    refine aw rfl rfl ?_
    refine aw_cv (d1 := 1) (L1 := 21) rfl rfl cg_8 rfl rfl (by decide) (by decide) (Nat.le_of_ble_eq_true rfl) (c_settleM (K := (K1.1, K1.2.1, va_up K1.2.2.1 46 (va_up (K1.2.2.1 46) 4 (nI (S 4 + 1))), K1.2.2.2)) hp hC.cx.2.2.2.2.2.1 hm96 (fun K9 kf kv => ?_))
    exact aw_iret rfl rfl (by
      have hka : KF K (K1.1, K1.2.1, va_up K1.2.2.1 46 (va_up (K1.2.2.1 46) 4 (nI (S 4 + 1))), K1.2.2.2) [16, 17] [] (fun q => rgP q ∨ q = 46) := (k1.tr (I1 := []) (J1 := []) (R1 := fun q => q = 46) ⟨fun _ _ => rfl, fun _ _ => rfl, fun q hq => vu_ot hq, rfl⟩)
      have hkf := hka.tr kf
      refine q u0 u1 K9 (hC.up hkf (fun n h1 h2 => by simp; omega) (fun n h1 => by simp) ⟨?_, ?_, ?_, ?_, ?_, ?_⟩ (hsc.move (b := false) hc1 hm9 rfl g4) ?_ ?_ (by omega)) ?_
      · rw [kv]; exact SRl.of rfl rfl (hst1 2 (by decide)) (hst1 3 (by decide)) rfl (hst1 5 (by decide)) (show (bif hm T m then nI 1 else nI 0) = nI (bif hm T m then 1 else 0) by cases hm T m <;> rfl)
      · have e1 := kf.1 16 (by simp)
        have e2 := kf.1 17 (by simp)
        refine ⟨k2.1, e2.trans k2.2.1, ?_⟩
        obtain ⟨nx, a1, a2, a3⟩ := k2.2.2
        exact ⟨nx, a1, e1.trans a2, fun i hi => by rw [kf.2.2.1 _ (by omega)]; show SRl (va_up K1.2.2.1 46 _ _) _; rw [vu_ot (by omega)]; exact a3 i hi⟩
      · intro s hs
        rw [hkf.2.2.1 _ (by unfold rgP; omega)]
        exact hC.sl s hs
      · rw [hkf.1 25 (by simp), hkf.2.1 114 (by simp)]; exact hC.tdr
      · rw [hkf.1 0 (by simp), hkf.2.1 9 (by simp)]; exact hC.ta
      · rw [hkf.1 1 (by simp)]; exact hC.pl
      · intro i hi
        unfold psP
        unfold psU at hi
        by_cases e : u = 50
        · rw [if_pos e] at hi ⊢
          split
          · exact hsc.mono (by omega)
          · exact (hscP (i + 1) (by omega)).mono (by omega)
        · rw [if_neg e] at hi ⊢
          split
          · exact hsc.mono (by omega)
          · exact (hscP i (by omega)).mono (by omega)
      · exact fun s h1 h2 => (hscZ s h1 h2).mono (by omega)
      · exact congrArg (fun z => z.2) hkf.2.2.2)
theorem c_X10_kick {Q : Option Value → am_H → Prop} (hC : CS g T0 u0 T1 u1 K rf p T W S u P td TD hd Z nt tp pc cc) {x : Int32} (hc1 : cc < 1000) (q0 : kB T S x = false → Q (some (.int (a_kick T (lwf W) S x))) (ch g T0 u0 T1 u1 K rf)) (q1 : kB T S x = true → (∀ u0 u1 K', CS g T0 u0 T1 u1 K' rf p T W (mvS T (lwf W) S (kW T S x)) (psU u) (psP u P S) td TD hd Z nt tp pc (cc + 1) → K'.2.2.2.2 = K.2.2.2.2 → Q (some (.int (a_kick T (lwf W) S x))) (ch g T0 u0 T1 u1 K' rf))) : AC am_P 5 122 142 [.ref 8, .int x] (ch g T0 u0 T1 u1 K rf) Q := by
  refine AC.of (ls := [_, _]) rfl ?_
  have hp := hC.cx.1
  have hG := hC.cx.2.1
  have hG0 := hG
  obtain ⟨⟨g0, g0x⟩, ⟨g1, g1x⟩, ⟨g2, g2x⟩, ⟨g3, g3x⟩, g4, ⟨g5, g5x⟩, g6, gsq, goc, gwt, gsp, gfr⟩ := hG
  obtain ⟨s0, s1, s2, s3, s4, s5, s6⟩ := hC.sc
  have hl96 := s0.1
  unfold a_kick at q0 q1
  refine aw rfl rfl ?_
  refine aw_getfE rfl cg_8 rfl (congrArg Value.ref hC.cx.2.2.2.2.2.1) ?_
  refine aw rfl rfl ?_
  refine aw_cv (d1 := 0) (L1 := 0) rfl rfl (sa hp).1 rfl rfl (by decide) (by decide) (Nat.le_of_ble_eq_true rfl) (c_hasKick hC (fun j ej hj => ?_) (fun p8 => ?_))
  · refine aw_ne rfl (fun _ => ?_) (fun c => absurd c (by decide))
    subst ej
    refine aw rfl rfl ?_
    refine aw rfl rfl ?_
    refine aw_cv (d1 := 1) (L1 := 22) rfl rfl cg_8 rfl rfl (by decide) (by decide) (Nat.le_of_ble_eq_true rfl) (c_X10_canBeKicked hC hj (fun h6 hz => ?_) (fun hz => ?_))
    · refine aw_ne rfl (fun _ => ?_) (fun c => absurd c (by decide))
      have hkb : kB T S (nI j) = true := by unfold kB; rw [decide_eq_true (nI_le (Nat.zero_le _) (by omega)), decide_eq_true (nI_lt hj (by omega)), decide_eq_true h6, nI_clamp (by omega), hz]; rfl
      have q := q1 hkb
      have hkw : kW T S (nI j) = 6 * j + drw T S j := by unfold kW; rw [nI_clamp (by omega)]
      rw [kin_yes g3x hj, if_pos ⟨h6, hz⟩, hkw] at q
      refine aw rfl rfl ?_
      refine aw rfl rfl ?_
      refine aw_getfE rfl cg_8 rfl (congrArg Value.ref hC.cx.2.2.2.2.2.1) ?_
      refine aw rfl rfl ?_
      refine aw rfl rfl ?_
      refine aw_getf rfl cg_8 rfl ?_
      refine aw_getfE rfl cg_46 rfl (congrArg Value.int (hC.st 4 (by decide))) ?_
      refine aw_cv (d1 := 2) (L1 := 44) rfl rfl (sa hp).1 rfl rfl (by decide) (by decide) (Nat.le_of_ble_eq_true rfl) (c_X7_drawnWay (S := S) (sa hp) hG0 hj ?_)
      refine aw_cv (d1 := 4) (L1 := 100) rfl rfl cg_8 rfl rfl (by decide) (by decide) (Nat.le_of_ble_eq_true rfl) (c_X10_comeBy (way := 6 * j + drw T S j) hC hc1 h6 (Or.inr ⟨j, drw T S j, hj, (drw_spec hG0 hj).1, rfl⟩) (fun u0 u1 K9 hC9 hk9 => ?_))
      exact aw_iret rfl rfl (q _ _ _ hC9 hk9)
    · refine aw_ne rfl (fun c => absurd (by decide) c) (fun _ => ?_)
      refine aw_c (v := -2) rfl (by decide) ?_
      exact aw_iret rfl rfl (by rw [kin_yes g3x hj, if_neg hz] at q0; exact q0 (by unfold kB; rw [nI_clamp (by omega)]; by_cases h6 : S 6 = 0; rw [Bool.eq_false_iff.mpr (fun y => hz ⟨h6, y⟩), Bool.and_false]; rw [decide_eq_false h6, Bool.and_false]; rfl))
  · refine aw_ne rfl (fun c => absurd (by decide) c) (fun _ => ?_)
    refine aw_c (v := -1) rfl (by decide) ?_
    exact aw_iret rfl rfl (by rw [kin_no p8] at q0; exact q0 (by unfold kB; rcases p8 with p8 | p8; rw [decide_eq_false (show ¬ nI 0 ≤ x from Int32.not_le.mpr p8)]; rfl; rw [decide_eq_false (Int32.not_lt.mpr p8), Bool.and_false]; rfl))
theorem c_X10_waits {Q : Option Value → am_H → Prop} (hC : CS g T0 u0 T1 u1 K rf p T W S u P td TD hd Z nt tp pc cc) (hc1 : cc < 1000) (q0 : ¬ S 6 = 0 → Q (some (.int (a_waits T (lwf W) S))) (ch g T0 u0 T1 u1 K rf)) (q1 : S 6 = 0 → (∀ u0 u1 K', CS g T0 u0 T1 u1 K' rf p T W (mvS T (lwf W) S 24) (psU u) (psP u P S) td TD hd Z nt tp pc (cc + 1) → K'.2.2.2.2 = K.2.2.2.2 → Q (some (.int (a_waits T (lwf W) S))) (ch g T0 u0 T1 u1 K' rf))) : AC am_P 5 122 148 [.ref 8] (ch g T0 u0 T1 u1 K rf) Q := by
  refine AC.of (ls := [_]) rfl ?_
  have hp := hC.cx.1
  have hG := hC.cx.2.1
  have hG0 := hG
  obtain ⟨⟨g0, g0x⟩, ⟨g1, g1x⟩, ⟨g2, g2x⟩, ⟨g3, g3x⟩, g4, ⟨g5, g5x⟩, g6, gsq, goc, gwt, gsp, gfr⟩ := hG
  obtain ⟨s0, s1, s2, s3, s4, s5, s6⟩ := hC.sc
  have hl96 := s0.1
  unfold a_waits at q0 q1
  have hS6 : S 6 ≤ 2 := by rcases s6 with h | h | h <;> omega
  refine aw rfl rfl ?_
  refine aw_getf rfl cg_8 rfl ?_
  refine aw_getfE rfl cg_46 rfl (congrArg Value.int (hC.st 6 (by decide))) ?_
  refine aw_eqn rfl (fun c7 => ?_) (fun c7 => ?_)
  · refine aw rfl rfl ?_
    refine aw_c (v := nI 24) rfl (by decide) ?_
    refine aw_cv (d1 := 4) (L1 := 100) rfl rfl cg_8 rfl rfl (by decide) (by decide) (Nat.le_of_ble_eq_true rfl) (c_X10_comeBy (way := 24) hC hc1 c7 (Or.inl rfl) (fun u0 u1 K9 hC9 hk9 => ?_))
    exact aw_iret rfl rfl (by rw [if_pos c7] at q1; exact q1 c7 _ _ _ hC9 hk9)
  · refine aw_c (v := -2) rfl (by decide) ?_
    exact aw_iret rfl rfl (by rw [if_neg c7] at q0; exact q0 c7)
end C1
