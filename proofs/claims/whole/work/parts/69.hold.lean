/-! ===== the class: touch, undo, tell, forget, hold, restore, feed, back ===== -/
section C1
variable {g : am_H} {T0 T1 T : Sd} {u0 u1 : Ua} {K : Ck} {rf : Nat → Nat} {p : Nat} {S : Nat → Nat} {u td nt cc : Nat} {P Z : Nat → Nat → Nat} {TD : Nat → Nat} {hd : Nat → Bool} {tp : Nat → Int32} {pc : Int32} {W : Nat → Lw}
variable {no na : Nat} {lf : Nat → Nat}
theorem tcN_no {x : Int32} (h : tcX T (S 0) x = none ∨ ¬ S 6 = 0) : tcN T S x = none := by
  unfold tcN
  by_cases e : nI 0 ≤ x ∧ x ≤ nI 3 ∧ S 6 = 0
  · rw [if_pos e]
    rcases h with h | h
    · unfold tcX at h; rw [if_pos ⟨e.1, e.2.1⟩] at h; exact h
    · exact absurd e.2.2 h
  · rw [if_neg e]
theorem c_X10_touch {Q : Option Value → am_H → Prop} (hC : CS g T0 u0 T1 u1 K rf p T W S u P td TD hd Z nt tp pc cc) {x : Int32} (hc1 : cc < 1000) (q0 : tcN T S x = none → Q (some (.int (nI 0))) (ch g T0 u0 T1 u1 K rf)) (q1 : ∀ s K', tcN T S x = some s → CS g T0 u0 T1 u1 K' rf p T W (mvT T S s) (psU u) (psP u P S) td TD hd Z nt tp pc (cc + 1) → K'.2.2.2.2 = K.2.2.2.2 → Q (some (.int (nI 1))) (ch g T0 u0 T1 u1 K' rf)) : AC am_P 3 67 149 [.ref 8, .int x] (ch g T0 u0 T1 u1 K rf) Q := by
  refine AC.of (ls := [_, _, _]) rfl ?_
  have hp := hC.cx.1
  have hG := hC.cx.2.1
  have hG0 := hG
  obtain ⟨⟨g0, g0x⟩, ⟨g1, g1x⟩, ⟨g2, g2x⟩, ⟨g3, g3x⟩, g4, ⟨g5, g5x⟩, g6, gsq, goc, gwt, gsp, gfr⟩ := hG
  obtain ⟨s0, s1, s2, s3, s4, s5, s6⟩ := hC.sc
  have hl96 := s0.1
  have hsc := hC.2.2.2.2.2.2.1
  have hscP := hC.2.2.2.2.2.2.2.1
  have hscZ := hC.2.2.2.2.2.2.2.2.1
  have hcc := hC.2.2.2.2.2.2.2.2.2
  have hS6 : S 6 ≤ 2 := by rcases s6 with h | h | h <;> omega
  refine aw rfl rfl ?_
  refine aw rfl rfl ?_
  refine aw_cv (d1 := 2) (L1 := 43) rfl rfl cg_8 rfl rfl (by decide) (by decide) (Nat.le_of_ble_eq_true rfl) (c_X10_touched hC (fun s hs hls => ?_) (fun hs => ?_))
  · have hls96 := hls.1
    refine aw_ist (ls' := [_, _, _]) rfl rfl ?_
    refine aw rfl rfl ?_
    refine aw_c (v := -1) rfl (by decide) ?_
    refine aw_ieqm rfl ?_
    refine aw rfl rfl ?_
    refine aw_getf rfl cg_8 rfl ?_
    refine aw_getfE rfl cg_46 rfl (congrArg Value.int (hC.st 6 (by decide))) ?_
    refine aw_eqn rfl (fun c18 => ?_) (fun c18 => ?_)
    · refine aw rfl rfl ?_
      refine aw_getf rfl cg_8 rfl ?_
      refine aw rfl rfl ?_
      refine aw_getf rfl cg_8 rfl ?_
      refine aw_cv (d1 := 1) (L1 := 21) rfl rfl cg_47 rfl rfl (by decide) (by decide) (Nat.le_of_ble_eq_true rfl) (c_X2_keep hC.ps hC.st (fun K1 k1 k2 => ?_))
      have hst1 : SRl (K1.2.2.1 46) S := by rw [k1.2.2.1 46 (by unfold rgP; omega)]; exact hC.st
      refine aw rfl rfl ?_
      refine aw_getf rfl cg_8 rfl ?_
      refine aw rfl rfl ?_
      refine aw_getfE rfl cg_46 rfl (congrArg Value.int (hst1 5 (by decide))) ?_
      refine aw_c (v := nI 1) rfl (by decide) ?_
      refine aw_addn rfl ?_
      refine aw_putfU rfl cg_46 rfl rfl (by decide) (cps_46 (by decide)) ?_
      refine aw rfl rfl ?_
      refine aw rfl rfl ?_
      refine aw rfl rfl ?_
      refine aw_getf rfl cg_8 rfl ?_
      refine aw_getfE rfl cg_46 rfl (congrArg Value.int (show va_up (K1.2.2.1 46) 5 (nI (S 5 + 1)) 1 = nI (S 1) from hst1 1 (by decide))) ?_
      refine aw_cs (d1 := 0) (L1 := 0) rfl rfl (by decide) (by decide) (Nat.le_of_ble_eq_true rfl) (c_X10_lieOf ?_)
      refine aw_cv (d1 := 1) (L1 := 21) rfl rfl cg_8 rfl rfl (by decide) (by decide) (Nat.le_of_ble_eq_true rfl) (c_settleM (K := (K1.1, K1.2.1, va_up K1.2.2.1 46 (va_up (K1.2.2.1 46) 5 (nI (S 5 + 1))), K1.2.2.2)) hp hC.cx.2.2.2.2.2.1 hls96 (fun K9 kf kv => ?_))
      refine aw rfl rfl ?_
      refine aw_c (v := nI 1) rfl (by decide) ?_
      exact aw_iret rfl rfl (by
      have hka : KF K (K1.1, K1.2.1, va_up K1.2.2.1 46 (va_up (K1.2.2.1 46) 5 (nI (S 5 + 1))), K1.2.2.2) [16, 17] [] (fun q => rgP q ∨ q = 46) := (k1.tr (I1 := []) (J1 := []) (R1 := fun q => q = 46) ⟨fun _ _ => rfl, fun _ _ => rfl, fun q hq => vu_ot hq, rfl⟩)
      have hkf := hka.tr kf
      have htn : tcN T S x = some s := by
        unfold tcN
        unfold tcX at hs
        by_cases e9 : nI 0 ≤ x ∧ x ≤ nI 3
        · rw [if_pos e9] at hs; rw [if_pos ⟨e9.1, e9.2, c18⟩]; exact hs
        · rw [if_neg e9] at hs; cases hs
      refine q1 s K9 htn (hC.up hkf (fun n h1 h2 => by simp; omega) (fun n h1 => by simp) ⟨?_, ?_, ?_, ?_, ?_, ?_⟩ (hsc.touch hc1 hls) ?_ ?_ (by omega)) ?_
      · rw [kv]
        exact SRl.of (congrArg nI (show (s * 3 + S 1) / 3 = s by omega)) ((congrArg nI (show (s * 3 + S 1) % 3 = S 1 by omega))) (hst1 2 (by decide)) (hst1 3 (by decide)) (hst1 4 (by decide)) rfl (show (bif hm T (s * 3 + S 1) then nI 1 else nI 0) = nI (bif hm T (s * 3 + S 1) then 1 else 0) by cases hm T (s * 3 + S 1) <;> rfl)
      · have e1 := kf.1 16 (by simp)
        have e2 := kf.1 17 (by simp)
        refine ⟨k2.1, e2.trans k2.2.1, ?_⟩
        obtain ⟨nx, a1, a2, a3⟩ := k2.2.2
        exact ⟨nx, a1, e1.trans a2, fun i hi => by rw [kf.2.2.1 _ (by omega)]; show SRl (va_up K1.2.2.1 46 _ _) _; rw [vu_ot (by omega)]; exact a3 i hi⟩
      · intro s hs
        rw [hkf.2.2.1 _ (by unfold rgP; omega)]
        exact hC.sl s hs
      · rw [hkf.1 25 (by simp), hkf.2.1 114 (by simp)]; exact hC.tdr
      · rw [hkf.1 0 (by simp), hkf.2.1 9 (by simp)]; exact hC.ta
      · rw [hkf.1 1 (by simp)]; exact hC.pl
      · intro i hi
        unfold psP
        unfold psU at hi
        by_cases e : u = 50
        · rw [if_pos e] at hi ⊢
          split
          · exact hsc.mono (by omega)
          · exact (hscP (i + 1) (by omega)).mono (by omega)
        · rw [if_neg e] at hi ⊢
          split
          · exact hsc.mono (by omega)
          · exact (hscP i (by omega)).mono (by omega)
      · exact fun s h1 h2 => (hscZ s h1 h2).mono (by omega)
      · exact congrArg (fun z => z.2) hkf.2.2.2)
    · refine aw_c (v := nI 0) rfl (by decide) ?_
      exact aw_iret rfl rfl (q0 (tcN_no (Or.inr c18)))
  · refine aw_ist (ls' := [_, _, _]) rfl rfl ?_
    refine aw rfl rfl ?_
    refine aw_c (v := -1) rfl (by decide) ?_
    refine aw_ieq rfl (fun _ => ?_) (fun c => absurd (by decide) c)
    refine aw_c (v := nI 0) rfl (by decide) ?_
    exact aw_iret rfl rfl (q0 (tcN_no (Or.inl hs)))
theorem c_X10_undo {Q : Option Value → am_H → Prop} (hC : CS g T0 u0 T1 u1 K rf p T W S u P td TD hd Z nt tp pc cc) (q0 : u = 0 → Q (some (.int (nI 0))) (ch g T0 u0 T1 u1 K rf)) (q1 : ∀ K', 0 < u → CS g T0 u0 T1 u1 K' rf p T W (P (u - 1)) (u - 1) P td TD hd Z nt tp pc cc → K'.2.2.2.2 = K.2.2.2.2 → Q (some (.int (nI 1))) (ch g T0 u0 T1 u1 K' rf)) : AC am_P 2 42 151 [.ref 8] (ch g T0 u0 T1 u1 K rf) Q := by
  refine AC.of (ls := [_]) rfl ?_
  have hp := hC.cx.1
  have hG := hC.cx.2.1
  have hG0 := hG
  obtain ⟨⟨g0, g0x⟩, ⟨g1, g1x⟩, ⟨g2, g2x⟩, ⟨g3, g3x⟩, g4, ⟨g5, g5x⟩, g6, gsq, goc, gwt, gsp, gfr⟩ := hG
  obtain ⟨s0, s1, s2, s3, s4, s5, s6⟩ := hC.sc
  have hl96 := s0.1
  have hsc := hC.2.2.2.2.2.2.1
  have hscP := hC.2.2.2.2.2.2.2.1
  have hscZ := hC.2.2.2.2.2.2.2.2.1
  have hcc := hC.2.2.2.2.2.2.2.2.2
  refine aw rfl rfl ?_
  refine aw_getf rfl cg_8 rfl ?_
  refine aw rfl rfl ?_
  refine aw_getf rfl cg_8 rfl ?_
  refine aw_cv (d1 := 1) (L1 := 21) rfl rfl cg_47 rfl rfl (by decide) (by decide) (Nat.le_of_ble_eq_true rfl) (c_X2_takeBack hC.ps (fun z => ?_) (fun K9 hu hkf hps hst => ?_))
  · exact aw_iret rfl rfl (q0 z)
  · exact aw_iret rfl rfl (by
      refine q1 K9 hu (hC.up hkf (fun n h1 h2 => by simp; omega) (fun n h1 => by simp) ⟨hst, hps, ?_, ?_, ?_, ?_⟩ (hscP _ (by omega)) (fun i hi => hscP i (by omega)) hscZ hcc) (congrArg (fun z => z.2) hkf.2.2.2)
      · intro s hs
        rw [hkf.2.2.1 _ (by omega)]
        exact hC.sl s hs
      · rw [hkf.1 25 (by simp), hkf.2.1 114 (by simp)]; exact hC.tdr
      · rw [hkf.1 0 (by simp), hkf.2.1 9 (by simp)]; exact hC.ta
      · rw [hkf.1 1 (by simp)]; exact hC.pl)
theorem c_X5_clear {Q : Option Value → am_H → Prop} (hC : CS g T0 u0 T1 u1 K rf p T W S u P td TD hd Z nt tp pc cc) (q : Q (some (.int (nI td))) (ch g T0 u0 T1 u1 (va_up K.1 25 (nI 0), K.2) rf)) : AC am_P 0 0 70 [.ref 113] (ch g T0 u0 T1 u1 K rf) Q := by
  refine AC.of (ls := [_, _]) rfl ?_
  refine aw rfl rfl ?_
  refine aw_getfE rfl cg_113 rfl (congrArg Value.int hC.tdr.2.1) ?_
  refine aw_ist (ls' := [_, _]) rfl rfl ?_
  refine aw rfl rfl ?_
  refine aw_c (v := nI 0) rfl (by decide) ?_
  refine aw_putfU rfl cg_113 rfl rfl (by decide) cp_113_1 ?_
  refine aw rfl rfl ?_
  exact aw_iret rfl rfl q
theorem c_X10_forget {Q : Option Value → am_H → Prop} (hC : CS g T0 u0 T1 u1 K rf p T W S u P td TD hd Z nt tp pc cc) (q : ∀ K', CS g T0 u0 T1 u1 K' rf p T W S u P 0 TD hd Z nt tp pc cc → K'.2.2.2.2 = K.2.2.2.2 → Q (some (.int (nI td))) (ch g T0 u0 T1 u1 K' rf)) : AC am_P 1 21 178 [.ref 8] (ch g T0 u0 T1 u1 K rf) Q := by
  refine AC.of (ls := [_]) rfl ?_
  have hsc := hC.2.2.2.2.2.2.1
  have hscP := hC.2.2.2.2.2.2.2.1
  have hscZ := hC.2.2.2.2.2.2.2.2.1
  have hcc := hC.2.2.2.2.2.2.2.2.2
  refine aw rfl rfl ?_
  refine aw_getf rfl cg_8 rfl ?_
  refine aw_cv (d1 := 0) (L1 := 0) rfl rfl cg_113 rfl rfl (by decide) (by decide) (Nat.le_of_ble_eq_true rfl) (c_X5_clear hC ?_)
  exact aw_iret rfl rfl (by
      have hkf : KF K (va_up K.1 25 (nI 0), K.2) [25] [] (fun _ => False) := ⟨fun n hn => vu_ot (by simpa using hn), fun _ _ => rfl, fun _ _ => rfl, rfl⟩
      exact q _ (hC.up hkf (fun n h1 h2 => by simp; omega) (fun n h1 => by simp) ⟨hC.st, hC.ps, hC.sl, ⟨by omega, rfl, fun i hi => absurd hi (Nat.not_lt_zero _)⟩, hC.ta, hC.pl⟩ hsc hscP hscZ hcc) rfl)
theorem c_X5_add {Q : Option Value → am_H → Prop} {td s : Nat} (h5 : td ≤ 5) (h25 : K.1 25 = nI td) (q1 : td < 5 → Q (some (.int (nI td))) (ch g T0 u0 T1 u1 (va_up K.1 25 (nI (td + 1)), va_up K.2.1 114 (upd (K.2.1 114) td (nI s)), K.2.2) rf)) (q0 : td = 5 → Q (some (.int (-1))) (ch g T0 u0 T1 u1 K rf)) : AC am_P 0 0 71 [.ref 113, .int (nI s)] (ch g T0 u0 T1 u1 K rf) Q := by
  refine AC.of (ls := [_, _]) rfl ?_
  refine aw rfl rfl ?_
  refine aw_getfE rfl cg_113 rfl (congrArg Value.int h25) ?_
  refine aw_c (v := nI 5) rfl (by decide) ?_
  refine aw_iltn rfl (fun c5 => ?_) (fun c5 => ?_)
  · refine aw rfl rfl ?_
    refine aw_getf rfl cg_113 rfl ?_
    refine aw rfl rfl ?_
    refine aw_getfE rfl cg_113 rfl (congrArg Value.int h25) ?_
    refine aw rfl rfl ?_
    refine aw_iastU rfl cg_114 rfl (by omega) (by decide) (by decide) cu_114 ?_
    refine aw rfl rfl ?_
    refine aw rfl rfl ?_
    refine aw_getfE rfl cg_113 rfl (congrArg Value.int (show _ = nI td from h25)) ?_
    refine aw_c (v := nI 1) rfl (by decide) ?_
    refine aw_addn rfl ?_
    refine aw_putfU rfl cg_113 rfl rfl (by decide) cp_113_1 ?_
    refine aw rfl rfl ?_
    refine aw_getfE rfl cg_113 rfl (congrArg Value.int (show _ = nI (td + 1) from rfl)) ?_
    refine aw_c (v := nI 1) rfl (by decide) ?_
    refine aw_subn rfl (by omega) ?_
    rw [show td + 1 - 1 = td by omega]
    exact aw_iret rfl rfl (q1 c5)
  · refine aw_c (v := -1) rfl (by decide) ?_
    exact aw_iret rfl rfl (q0 (by omega))
theorem c_X10_tell {Q : Option Value → am_H → Prop} (hC : CS g T0 u0 T1 u1 K rf p T W S u P td TD hd Z nt tp pc cc) {x y : Int32} (q : ∀ K', CS g T0 u0 T1 u1 K' rf p T W S u P (n_td td T x y) (n_TD td TD x y) hd Z nt tp pc cc → K'.2.2.2.2 = K.2.2.2.2 → Q (some (.int (a_tell td T x y))) (ch g T0 u0 T1 u1 K' rf)) : AC am_P 1 23 177 [.ref 8, .int x, .int y] (ch g T0 u0 T1 u1 K rf) Q := by
  refine AC.of (ls := [_, _, _]) rfl ?_
  have hp := hC.cx.1
  have hG := hC.cx.2.1
  have hG0 := hG
  obtain ⟨⟨g0, g0x⟩, ⟨g1, g1x⟩, ⟨g2, g2x⟩, ⟨g3, g3x⟩, g4, ⟨g5, g5x⟩, g6, gsq, goc, gwt, gsp, gfr⟩ := hG
  obtain ⟨s0, s1, s2, s3, s4, s5, s6⟩ := hC.sc
  have hl96 := s0.1
  have hsc := hC.2.2.2.2.2.2.1
  have hscP := hC.2.2.2.2.2.2.2.1
  have hscZ := hC.2.2.2.2.2.2.2.2.1
  have hcc := hC.2.2.2.2.2.2.2.2.2
  obtain ⟨t5, t63, tin⟩ := hC.tdr
  unfold a_tell n_td at q
  refine aw rfl rfl ?_
  refine aw_getfE rfl cg_8 rfl (congrArg Value.ref hC.cx.2.2.2.2.2.1) ?_
  refine aw rfl rfl ?_
  refine aw rfl rfl ?_
  refine aw_cv (d1 := 0) (L1 := 0) rfl rfl (sa hp).1 rfl rfl (by decide) (by decide) (Nat.le_of_ble_eq_true rfl) (c_sq hC (fun a e6 z6 ea ee ha he hz ez => ?_) (fun pz => ?_))
  · refine aw_c (v := -1) rfl (by decide) ?_
    refine aw_inem rfl ?_
    subst ea ee
    refine aw rfl rfl ?_
    refine aw_getf rfl cg_8 rfl ?_
    refine aw rfl rfl ?_
    refine aw rfl rfl ?_
    refine aw_cs (d1 := 0) (L1 := 0) rfl rfl (by decide) (by decide) (Nat.le_of_ble_eq_true rfl) (c_X10_squareOf ?_)
    refine aw_cv (d1 := 0) (L1 := 0) rfl rfl cg_113 rfl rfl (by decide) (by decide) (Nat.le_of_ble_eq_true rfl) (c_X5_add t5 t63 (fun h5 => ?_) (fun h5 => ?_))
    · exact aw_iret rfl rfl (by
      rw [if_neg (show ¬ td = 5 by omega), if_neg (show ¬ (td = 5 ∨ pl_in T (nI a) (nI e6) (fun _ _ => nI 1) = -1) from fun w => w.elim (by omega) (fun w => by rw [pl_yes g0x g1x ha he] at w; exact absurd w (by decide))), pl_yes g0x g1x ha he] at q
      have hkf : KF K (va_up K.1 25 (nI (td + 1)), va_up K.2.1 114 (upd (K.2.1 114) td (nI (e6 * 8 + a))), K.2.2) [25] [114] (fun _ => False) := ⟨fun n hn => vu_ot (by simpa using hn), fun n hn => vu_ot (by simpa using hn), fun _ _ => rfl, rfl⟩
      refine q _ (hC.up hkf (fun n h1 h2 => by simp; omega) (fun n h1 => by rcases h1 with rfl | rfl | rfl | rfl <;> simp) ⟨hC.st, hC.ps, hC.sl, ⟨by omega, rfl, fun i hi => ?_⟩, hC.ta, hC.pl⟩ hsc hscP hscZ hcc) rfl
      show upd (K.2.1 114) td (nI (e6 * 8 + a)) i = _ ∧ _
      by_cases ei : i = td
      · subst ei
        rw [show n_TD i TD (nI a) (nI e6) i = e6 * 8 + a from (if_pos rfl).trans (by unfold sqXY; rw [nI_clamp (by omega), nI_clamp (by omega)])]
        exact ⟨upd_at, by omega, by omega, by omega⟩
      · rw [upd_ne ei, show n_TD td TD (nI a) (nI e6) i = TD i from if_neg ei]
        exact tin i (by omega))
    · exact aw_iret rfl rfl (by rw [if_pos h5, if_pos (Or.inl h5)] at q; exact q K (hC.up (I := []) (J := []) (R := fun _ => False) ⟨fun _ _ => rfl, fun _ _ => rfl, fun _ _ => rfl, rfl⟩ (fun _ _ _ => by simp) (fun _ _ => by simp) ⟨hC.st, hC.ps, hC.sl, ⟨t5, t63, fun i hi => by rw [show n_TD td TD (nI a) (nI e6) i = TD i from if_neg (by omega)]; exact tin i hi⟩, hC.ta, hC.pl⟩ hsc hscP hscZ hcc) rfl)
  · refine aw_c (v := -1) rfl (by decide) ?_
    refine aw_ine rfl (fun c => absurd (by decide) c) (fun _ => ?_)
    refine aw_c (v := -1) rfl (by decide) ?_
    exact aw_iret rfl rfl (by rw [if_pos (show td = 5 ∨ pl_in T x y (fun _ _ => nI 1) = -1 from Or.inr (pl_no pz)), pl_no pz] at q; rw [show (if td = 5 then (-1 : Int32) else -1) = -1 by split <;> rfl] at q; exact q K (hC.up (I := []) (J := []) (R := fun _ => False) ⟨fun _ _ => rfl, fun _ _ => rfl, fun _ _ => rfl, rfl⟩ (fun _ _ _ => by simp) (fun _ _ => by simp) ⟨hC.st, hC.ps, hC.sl, ⟨t5, t63, fun i hi => by rw [show n_TD td TD x y i = TD i from if_neg (by omega)]; exact tin i hi⟩, hC.ta, hC.pl⟩ hsc hscP hscZ hcc) rfl)
theorem c_X10_hold {Q : Option Value → am_H → Prop} (hC : CS g T0 u0 T1 u1 K rf p T W S u P td TD hd Z nt tp pc cc) {x : Int32} (q0 : (¬ nI 0 ≤ x ∨ ¬ x ≤ nI 2) → Q (some (.int (nI 0))) (ch g T0 u0 T1 u1 K rf)) (q1 : ∀ s K', s < 3 → x = nI s → CS g T0 u0 T1 u1 K' rf p T W S u P td TD (fun i => if i = s then true else hd i) (fun i => if i = s then S else Z i) nt tp pc cc → K'.2.2.2.2 = K.2.2.2.2 → Q (some (.int (nI 1))) (ch g T0 u0 T1 u1 K' rf)) : AC am_P 1 21 181 [.ref 8, .int x] (ch g T0 u0 T1 u1 K rf) Q := by
  refine AC.of (ls := [_, _]) rfl ?_
  have hsc := hC.2.2.2.2.2.2.1
  have hscP := hC.2.2.2.2.2.2.2.1
  have hscZ := hC.2.2.2.2.2.2.2.2.1
  have hcc := hC.2.2.2.2.2.2.2.2.2
  refine aw rfl rfl ?_
  refine aw_lt rfl (fun c1 => ?_) (fun c1 => ?_)
  · refine aw_c (v := nI 0) rfl (by decide) ?_
    exact aw_iret rfl rfl (q0 (Or.inl (Int32.not_le.mpr c1)))
  · obtain ⟨s, hs9, rfl⟩ := nI_of c1
    refine aw rfl rfl ?_
    refine aw_c (v := nI 3) rfl (by decide) ?_
    refine aw_iltn rfl (fun c6 => ?_) (fun c6 => ?_)
    · refine aw rfl rfl ?_
      refine aw_getf rfl cg_8 rfl ?_
      refine aw rfl rfl ?_
      refine aw_aald rfl cg_99 rfl (by omega) (by decide) (if_pos (by omega)) ?_
      refine aw rfl rfl ?_
      refine aw_getf rfl cg_8 rfl ?_
      refine aw_cv (d1 := 0) (L1 := 0) rfl rfl (cg_slot s c6) rfl rfl (by decide) (by decide) (Nat.le_of_ble_eq_true rfl) (c_X6_copyFrom (cg_slot s c6) cg_46 (by omega) (by omega) ?_)
      rw [cw_slot s c6]
      refine aw rfl rfl ?_
      refine aw_getf rfl cg_8 rfl ?_
      refine aw rfl rfl ?_
      refine aw_aald rfl cg_99 rfl (by omega) (by decide) (if_pos (by omega)) ?_
      refine aw_c (v := nI 1) rfl (by decide) ?_
      refine aw_putfU rfl (cg_slot s c6) rfl rfl (by omega) ((congrArg (fun z => am_up _ _ (.inl (6, z))) (stf_up 7 (by decide))).trans (cw_slot s c6)) ?_
      refine aw_c (v := nI 1) rfl (by decide) ?_
      exact aw_iret rfl rfl (by
      have hkf : KF K (K.1, K.2.1, va_up (va_up K.2.2.1 (118 + s) (cpf (K.2.2.1 (118 + s)) (K.2.2.1 46))) (118 + s) (va_up (va_up K.2.2.1 (118 + s) (cpf (K.2.2.1 (118 + s)) (K.2.2.1 46)) (118 + s)) 7 (nI 1)), K.2.2.2) [] [] (fun q => q = 118 + s) := ⟨fun _ _ => rfl, fun _ _ => rfl, fun q hq => (vu_ot hq).trans (vu_ot hq), rfl⟩
      refine q1 s _ c6 rfl (hC.up hkf (fun _ _ _ => by simp) (fun _ _ => by simp) ⟨?_, ?_, ?_, hC.tdr, hC.ta, hC.pl⟩ hsc hscP ?_ hcc) rfl
      · rw [hkf.2.2.1 46 (by omega)]; exact hC.st
      · obtain ⟨a1, a2, nx, a3, a4, a5⟩ := hC.ps
        exact ⟨a1, a2, nx, a3, a4, fun i hi => by rw [hkf.2.2.1 _ (by omega)]; exact a5 i hi⟩
      · intro i hi
        by_cases e : i = s
        · subst e
          dsimp only
          rw [if_pos rfl, if_pos rfl]
          refine ⟨(congrFun (show va_up (va_up K.2.2.1 (118 + i) _) (118 + i) _ (118 + i) = _ from vu_at) 7).trans vu_at, fun _ j hj => (congrFun (show va_up (va_up K.2.2.1 (118 + i) _) (118 + i) _ (118 + i) = _ from vu_at) j).trans ((vu_ot (by omega)).trans ((congrFun (show va_up K.2.2.1 (118 + i) _ (118 + i) = _ from vu_at) j).trans ?_))⟩
          exact (if_pos hj).trans (hC.st j hj)
        · rw [hkf.2.2.1 _ (by omega)]
          dsimp only
          rw [if_neg e, if_neg e]
          exact hC.sl i hi
      · intro i hi h9
        by_cases e : i = s
        · subst e; rw [if_pos rfl]; exact hsc
        · rw [if_neg e]; rw [if_neg e] at h9; exact hscZ i hi h9)
    · refine aw_c (v := nI 0) rfl (by decide) ?_
      exact aw_iret rfl rfl (q0 (Or.inr (fun w => c6 (by have := (nI_leI hs9 (by decide)).mp w; omega))))
theorem c_X10_restore {Q : Option Value → am_H → Prop} (hC : CS g T0 u0 T1 u1 K rf p T W S u P td TD hd Z nt tp pc cc) {x : Int32} (q0 : (∀ s, s < 3 → x = nI s → hd s = false) → Q (some (.int (nI 0))) (ch g T0 u0 T1 u1 K rf)) (q1 : ∀ s K', s < 3 → x = nI s → hd s = true → CS g T0 u0 T1 u1 K' rf p T W (Z s) 0 P td TD hd Z nt tp pc cc → K'.2.2.2.2 = K.2.2.2.2 → Q (some (.int (nI 1))) (ch g T0 u0 T1 u1 K' rf)) : AC am_P 1 21 182 [.ref 8, .int x] (ch g T0 u0 T1 u1 K rf) Q := by
  refine AC.of (ls := [_, _]) rfl ?_
  have hsc := hC.2.2.2.2.2.2.1
  have hscP := hC.2.2.2.2.2.2.2.1
  have hscZ := hC.2.2.2.2.2.2.2.2.1
  have hcc := hC.2.2.2.2.2.2.2.2.2
  have b1 : ∀ b : Bool, bI b = 0 → b = false := by decide
  have b2 : ∀ b : Bool, ¬ bI b = 0 → b = true := by decide
  refine aw rfl rfl ?_
  refine aw_lt rfl (fun c1 => ?_) (fun c1 => ?_)
  · refine aw_c (v := nI 0) rfl (by decide) ?_
    exact aw_iret rfl rfl (q0 (fun i h1 h2 => by subst h2; exact absurd c1 (nI_pos (by omega))))
  · obtain ⟨s, hs9, rfl⟩ := nI_of c1
    refine aw rfl rfl ?_
    refine aw_c (v := nI 3) rfl (by decide) ?_
    refine aw_igen rfl (fun c6 => ?_) (fun c6 => ?_)
    · refine aw_c (v := nI 0) rfl (by decide) ?_
      exact aw_iret rfl rfl (q0 (fun i h1 h2 => by have e9 := (nI_eq (by omega) (by omega)).mp h2; omega))
    · refine aw rfl rfl ?_
      refine aw_getf rfl cg_8 rfl ?_
      refine aw rfl rfl ?_
      refine aw_aald rfl cg_99 rfl (by omega) (by decide) (if_pos (by omega)) ?_
      refine aw_getfE rfl (cg_slot s (by omega)) rfl (congrArg Value.int (hC.sl s (by omega)).1) ?_
      refine aw_ne rfl (fun c18 => ?_) (fun c18 => ?_)
      · refine aw rfl rfl ?_
        refine aw_getf rfl cg_8 rfl ?_
        refine aw rfl rfl ?_
        refine aw_getf rfl cg_8 rfl ?_
        refine aw rfl rfl ?_
        refine aw_aald rfl cg_99 rfl (by omega) (by decide) (if_pos (by omega)) ?_
        refine aw_cv (d1 := 0) (L1 := 0) rfl rfl cg_46 rfl rfl (by decide) (by decide) (Nat.le_of_ble_eq_true rfl) (c_X6_copyFrom cg_46 (cg_slot s (by omega)) (by omega) (by decide) ?_)
        rw [cw_46]
        refine aw rfl rfl ?_
        refine aw_getf rfl cg_8 rfl ?_
        refine aw_cv (d1 := 0) (L1 := 0) rfl rfl cg_47 rfl rfl (by decide) (by decide) (Nat.le_of_ble_eq_true rfl) (c_X2_clear ?_)
        refine aw_c (v := nI 1) rfl (by decide) ?_
        exact aw_iret rfl rfl (by
      have eh : hd s = true := b2 _ c18
      have hkf : KF K (va_up (va_up K.1 16 (nI 0)) 17 (nI 0), K.2.1, va_up K.2.2.1 46 (cpf (K.2.2.1 46) (K.2.2.1 (118 + s))), K.2.2.2) [16, 17] [] (fun q => q = 46) := ⟨fun n hn => (vu_ot (by simp at hn; omega)).trans (vu_ot (by simp at hn; omega)), fun _ _ => rfl, fun q hq => vu_ot hq, rfl⟩
      refine q1 s _ (by omega) rfl eh (hC.up hkf (fun n h1 h2 => by simp; omega) (fun _ _ => by simp) ⟨?_, ⟨by omega, rfl, 0, by decide, rfl, fun i hi => absurd hi (Nat.not_lt_zero _)⟩, ?_, hC.tdr, hC.ta, hC.pl⟩ (hscZ s (by omega) eh) (fun i hi => absurd hi (Nat.not_lt_zero _)) hscZ hcc) rfl
      · show SRl (va_up K.2.2.1 46 _ 46) _
        rw [vu_at]
        exact ((hC.sl s (by omega)).2 eh).cp
      · intro i hi
        rw [hkf.2.2.1 _ (by omega)]
        exact hC.sl i hi)
      · refine aw_c (v := nI 0) rfl (by decide) ?_
        exact aw_iret rfl rfl (q0 (fun i h1 h2 => by have e9 := (nI_eq (by omega) (by omega)).mp h2; subst e9; exact b1 _ c18))
theorem c_X10_putBytes {Q : Option Value → am_H → Prop} (h0 : nt + 4 ≤ 2000) (h1 : K.1 0 = nI nt) (h2 : ∀ i, i < nt → K.2.1 9 i = tp i) {w : Int32} (q : ∀ K', KF K K' [0] [9] (fun _ => False) → K'.1 0 = nI (nt + 4) → (∀ i, i < nt + 4 → K'.2.1 9 i = ptp nt tp w i) → Q none (ch g T0 u0 T1 u1 K' rf)) : AC am_P 0 0 133 [.ref 8, .int w] (ch g T0 u0 T1 u1 K rf) Q := by
  refine AC.of (ls := [_, _, _]) rfl ?_
  refine aw_c (v := nI 24) rfl (by decide) ?_
  refine aw_ist (ls' := [_, _, _]) rfl rfl ?_
  refine aw rfl rfl ?_
  refine aw_lt rfl (fun c => absurd c (by decide)) (fun _ => ?_)
  refine aw rfl rfl ?_
  refine aw_getfE rfl cg_8 rfl (congrArg Value.int h1) ?_
  refine aw rfl rfl ?_
  refine aw_getf rfl cg_8 rfl ?_
  refine aw_alen rfl cg_9 rfl ?_
  refine aw_igen rfl (fun c16 => by omega) (fun c16 => ?_)
  refine aw rfl rfl ?_
  refine aw_getf rfl cg_8 rfl ?_
  refine aw rfl rfl ?_
  refine aw_getfE rfl cg_8 rfl (congrArg Value.int h1) ?_
  refine aw rfl rfl ?_
  refine aw rfl rfl ?_
  refine aw rfl rfl ?_
  refine aw rfl rfl ?_
  refine aw_bastU rfl cg_9 rfl (by omega) (by decide) (by decide) cu_9 ?_
  refine aw rfl rfl ?_
  refine aw rfl rfl ?_
  refine aw_getfE rfl cg_8 rfl (congrArg Value.int h1) ?_
  refine aw_c (v := nI 1) rfl (by decide) ?_
  refine aw_addn rfl ?_
  refine aw_putfU rfl cg_8 rfl rfl (by decide) cp_8_1 ?_
  refine aw_incc (c := -8) (y := nI 16) (ls' := [_, _, _]) rfl rfl (by decide) (by decide) rfl ?_
  refine aw rfl rfl ?_
  refine aw rfl rfl ?_
  refine aw_lt rfl (fun c => absurd c (by decide)) (fun _ => ?_)
  refine aw rfl rfl ?_
  refine aw_getfE rfl cg_8 rfl (congrArg Value.int (show _ = nI (nt + 1) from rfl)) ?_
  refine aw rfl rfl ?_
  refine aw_getf rfl cg_8 rfl ?_
  refine aw_alen rfl cg_9 rfl ?_
  refine aw_igen rfl (fun c16 => by omega) (fun c16 => ?_)
  refine aw rfl rfl ?_
  refine aw_getf rfl cg_8 rfl ?_
  refine aw rfl rfl ?_
  refine aw_getfE rfl cg_8 rfl (congrArg Value.int (show _ = nI (nt + 1) from rfl)) ?_
  refine aw rfl rfl ?_
  refine aw rfl rfl ?_
  refine aw rfl rfl ?_
  refine aw rfl rfl ?_
  refine aw_bastU rfl cg_9 rfl (by omega) (by decide) (by decide) cu_9 ?_
  refine aw rfl rfl ?_
  refine aw rfl rfl ?_
  refine aw_getfE rfl cg_8 rfl (congrArg Value.int (show _ = nI (nt + 1) from rfl)) ?_
  refine aw_c (v := nI 1) rfl (by decide) ?_
  refine aw_addn rfl ?_
  refine aw_putfU rfl cg_8 rfl rfl (by decide) cp_8_1 ?_
  refine aw_incc (c := -8) (y := nI 8) (ls' := [_, _, _]) rfl rfl (by decide) (by decide) rfl ?_
  refine aw rfl rfl ?_
  refine aw rfl rfl ?_
  refine aw_lt rfl (fun c => absurd c (by decide)) (fun _ => ?_)
  refine aw rfl rfl ?_
  refine aw_getfE rfl cg_8 rfl (congrArg Value.int (show _ = nI (nt + 2) from rfl)) ?_
  refine aw rfl rfl ?_
  refine aw_getf rfl cg_8 rfl ?_
  refine aw_alen rfl cg_9 rfl ?_
  refine aw_igen rfl (fun c16 => by omega) (fun c16 => ?_)
  refine aw rfl rfl ?_
  refine aw_getf rfl cg_8 rfl ?_
  refine aw rfl rfl ?_
  refine aw_getfE rfl cg_8 rfl (congrArg Value.int (show _ = nI (nt + 2) from rfl)) ?_
  refine aw rfl rfl ?_
  refine aw rfl rfl ?_
  refine aw rfl rfl ?_
  refine aw rfl rfl ?_
  refine aw_bastU rfl cg_9 rfl (by omega) (by decide) (by decide) cu_9 ?_
  refine aw rfl rfl ?_
  refine aw rfl rfl ?_
  refine aw_getfE rfl cg_8 rfl (congrArg Value.int (show _ = nI (nt + 2) from rfl)) ?_
  refine aw_c (v := nI 1) rfl (by decide) ?_
  refine aw_addn rfl ?_
  refine aw_putfU rfl cg_8 rfl rfl (by decide) cp_8_1 ?_
  refine aw_incc (c := -8) (y := nI 0) (ls' := [_, _, _]) rfl rfl (by decide) (by decide) rfl ?_
  refine aw rfl rfl ?_
  refine aw rfl rfl ?_
  refine aw_lt rfl (fun c => absurd c (by decide)) (fun _ => ?_)
  refine aw rfl rfl ?_
  refine aw_getfE rfl cg_8 rfl (congrArg Value.int (show _ = nI (nt + 3) from rfl)) ?_
  refine aw rfl rfl ?_
  refine aw_getf rfl cg_8 rfl ?_
  refine aw_alen rfl cg_9 rfl ?_
  refine aw_igen rfl (fun c16 => by omega) (fun c16 => ?_)
  refine aw rfl rfl ?_
  refine aw_getf rfl cg_8 rfl ?_
  refine aw rfl rfl ?_
  refine aw_getfE rfl cg_8 rfl (congrArg Value.int (show _ = nI (nt + 3) from rfl)) ?_
  refine aw rfl rfl ?_
  refine aw rfl rfl ?_
  refine aw rfl rfl ?_
  refine aw rfl rfl ?_
  refine aw_bastU rfl cg_9 rfl (by omega) (by decide) (by decide) cu_9 ?_
  refine aw rfl rfl ?_
  refine aw rfl rfl ?_
  refine aw_getfE rfl cg_8 rfl (congrArg Value.int (show _ = nI (nt + 3) from rfl)) ?_
  refine aw_c (v := nI 1) rfl (by decide) ?_
  refine aw_addn rfl ?_
  refine aw_putfU rfl cg_8 rfl rfl (by decide) cp_8_1 ?_
  refine aw_incc (c := -8) (y := -8) (ls' := [_, _, _]) rfl rfl (by decide) (by decide) rfl ?_
  refine aw rfl rfl ?_
  refine aw rfl rfl ?_
  refine aw_lt rfl (fun _ => ?_) (fun c => absurd (by decide) c)
  exact aw_vret rfl rfl (by
    refine q _ ⟨fun n hn => ?_, fun n hn => ?_, fun _ _ => rfl, rfl⟩ rfl ?_
    · simp at hn; exact (vu_ot hn).trans ((vu_ot hn).trans ((vu_ot hn).trans (vu_ot hn)))
    · simp at hn; exact (vu_ot hn).trans ((vu_ot hn).trans ((vu_ot hn).trans (vu_ot hn)))
    · show ∀ i, i < nt + 4 → upd (upd (upd (upd (K.2.1 9) nt (byt w 24)) (nt + 1) (byt w 16)) (nt + 2) (byt w 8)) (nt + 3) (byt w 0) i = ptp nt tp w i
      exact upd_cg (m := nt + 3) (upd_cg (m := nt + 2) (upd_cg (m := nt + 1) (upd_cg h2 rfl) rfl) rfl) rfl)
theorem c_X10_feed {Q : Option Value → am_H → Prop} (hC : CS g T0 u0 T1 u1 K rf p T W S u P td TD hd Z nt tp pc cc) {x1 x2 x3 x4 x5 : Int32} (q : ∀ K', CS g T0 u0 T1 u1 K' rf p T W S u P td TD hd Z (n_nt nt) (ftp nt tp x1 x2 x3 x4 x5) pc cc → K'.2.2.2.2 = K.2.2.2.2 → Q (some (.int (a_feed nt))) (ch g T0 u0 T1 u1 K' rf)) : AC am_P 1 22 132 [.ref 8, .int x1, .int x2, .int x3, .int x4, .int x5] (ch g T0 u0 T1 u1 K rf) Q := by
  refine AC.of (ls := [_, _, _, _, _, _]) rfl ?_
  have hsc := hC.2.2.2.2.2.2.1
  have hscP := hC.2.2.2.2.2.2.2.1
  have hscZ := hC.2.2.2.2.2.2.2.2.1
  have hcc := hC.2.2.2.2.2.2.2.2.2
  obtain ⟨a0, a2, ain⟩ := hC.ta
  unfold a_feed n_nt ftp at q
  refine aw rfl rfl ?_
  refine aw_getfE rfl cg_8 rfl (congrArg Value.int a2) ?_
  refine aw_c (v := nI 20) rfl (by decide) ?_
  refine aw_addn rfl ?_
  refine aw_c (v := nI 2000) rfl (by decide) ?_
  refine aw_ilen rfl (fun c10 => ?_) (fun c10 => ?_)
  · refine aw rfl rfl ?_
    refine aw rfl rfl ?_
    refine aw_cv (d1 := 0) (L1 := 0) rfl rfl cg_8 rfl rfl (by decide) (by decide) (Nat.le_of_ble_eq_true rfl) (c_X10_putBytes (nt := nt) (by omega) a2 ain (fun K1 k1 z1 w1 => ?_))
    refine aw rfl rfl ?_
    refine aw rfl rfl ?_
    refine aw_cv (d1 := 0) (L1 := 0) rfl rfl cg_8 rfl rfl (by decide) (by decide) (Nat.le_of_ble_eq_true rfl) (c_X10_putBytes (nt := nt + 4) (by omega) z1 w1 (fun K2 k2 z2 w2 => ?_))
    refine aw rfl rfl ?_
    refine aw rfl rfl ?_
    refine aw_cv (d1 := 0) (L1 := 0) rfl rfl cg_8 rfl rfl (by decide) (by decide) (Nat.le_of_ble_eq_true rfl) (c_X10_putBytes (nt := nt + 8) (by omega) z2 w2 (fun K3 k3 z3 w3 => ?_))
    refine aw rfl rfl ?_
    refine aw rfl rfl ?_
    refine aw_cv (d1 := 0) (L1 := 0) rfl rfl cg_8 rfl rfl (by decide) (by decide) (Nat.le_of_ble_eq_true rfl) (c_X10_putBytes (nt := nt + 12) (by omega) z3 w3 (fun K4 k4 z4 w4 => ?_))
    refine aw rfl rfl ?_
    refine aw rfl rfl ?_
    refine aw_cv (d1 := 0) (L1 := 0) rfl rfl cg_8 rfl rfl (by decide) (by decide) (Nat.le_of_ble_eq_true rfl) (c_X10_putBytes (nt := nt + 16) (by omega) z4 w4 (fun K5 k5 z5 w5 => ?_))
    refine aw rfl rfl ?_
    refine aw_getfE rfl cg_8 rfl (congrArg Value.int z5) ?_
    exact aw_iret rfl rfl (by
      rw [if_pos c10, if_pos c10, if_pos c10] at q
      have hkf := (((k1.tr k2).tr k3).tr k4).tr k5
      refine q K5 (hC.up hkf (fun n h1 h2 => by simp; omega) (fun n h1 => by rcases h1 with rfl | rfl | rfl | rfl <;> simp) ⟨?_, ?_, ?_, ?_, ⟨c10, z5, w5⟩, ?_⟩ hsc hscP hscZ hcc) (congrArg (fun z => z.2) hkf.2.2.2)
      · rw [hkf.2.2.1 46 (by simp)]; exact hC.st
      · obtain ⟨b1, b2, nx, b3, b4, b5⟩ := hC.ps
        exact ⟨b1, (hkf.1 17 (by simp)).trans b2, nx, b3, (hkf.1 16 (by simp)).trans b4, fun i hi => by rw [hkf.2.2.1 _ (by simp)]; exact b5 i hi⟩
      · intro s hs; rw [hkf.2.2.1 _ (by simp)]; exact hC.sl s hs
      · rw [hkf.1 25 (by simp), hkf.2.1 114 (by simp)]; exact hC.tdr
      · rw [hkf.1 1 (by simp)]; exact hC.pl)
  · refine aw_c (v := -1) rfl (by decide) ?_
    exact aw_iret rfl rfl (by rw [if_neg c10, if_neg c10, if_neg c10] at q; exact q _ hC rfl)
theorem c_X10_back {Q : Option Value → am_H → Prop} (hC : CS g T0 u0 T1 u1 K rf p T W S u P td TD hd Z nt tp pc cc) {x : Int32} (q : ∀ K', CS g T0 u0 T1 u1 K' rf p T W S u P td TD hd Z (b_nt nt x) tp pc cc → K'.2.2.2.2 = K.2.2.2.2 → Q (some (.int (a_back nt x))) (ch g T0 u0 T1 u1 K' rf)) : AC am_P 0 0 134 [.ref 8, .int x] (ch g T0 u0 T1 u1 K rf) Q := by
  refine AC.of (ls := [_, _]) rfl ?_
  have hsc := hC.2.2.2.2.2.2.1
  have hscP := hC.2.2.2.2.2.2.2.1
  have hscZ := hC.2.2.2.2.2.2.2.2.1
  have hcc := hC.2.2.2.2.2.2.2.2.2
  obtain ⟨a0, a2, ain⟩ := hC.ta
  unfold a_back b_nt at q
  refine aw rfl rfl ?_
  refine aw_lt rfl (fun c1 => ?_) (fun c1 => ?_)
  · refine aw_c (v := -1) rfl (by decide) ?_
    exact aw_iret rfl rfl (by rw [if_neg (fun y => absurd c1 (Int32.not_lt.mpr y.1)), if_neg (fun y => absurd c1 (Int32.not_lt.mpr y.1))] at q; exact q _ hC rfl)
  · obtain ⟨n, hn, rfl⟩ := nI_of c1
    refine aw rfl rfl ?_
    refine aw rfl rfl ?_
    refine aw_getfE rfl cg_8 rfl (congrArg Value.int a2) ?_
    refine aw_ilen rfl (fun c9 => ?_) (fun c9 => ?_)
    · refine aw rfl rfl ?_
      refine aw rfl rfl ?_
      refine aw_getfE rfl cg_8 rfl (congrArg Value.int a2) ?_
      refine aw rfl rfl ?_
      refine aw_subn rfl (by omega) ?_
      refine aw_putfU rfl cg_8 rfl rfl (by decide) cp_8_1 ?_
      refine aw rfl rfl ?_
      refine aw_getfE rfl cg_8 rfl (congrArg Value.int (show _ = nI (nt - n) from rfl)) ?_
      exact aw_iret rfl rfl (by
      rw [if_pos ⟨nI_pos' hn, nI_le c9 (by omega)⟩, if_pos ⟨nI_pos' hn, nI_le c9 (by omega)⟩, nI_clamp hn] at q
      have hkf : KF K (va_up K.1 0 (nI (nt - n)), K.2) [0] [] (fun _ => False) := ⟨fun n hn => vu_ot (by simpa using hn), fun _ _ => rfl, fun _ _ => rfl, rfl⟩
      exact q _ (hC.up hkf (fun n h1 h2 => by simp; omega) (fun _ _ => by simp) ⟨hC.st, hC.ps, hC.sl, hC.tdr, ⟨by omega, rfl, fun i hi => ain i (by omega)⟩, hC.pl⟩ hsc hscP hscZ hcc) rfl)
    · refine aw_c (v := -1) rfl (by decide) ?_
      exact aw_iret rfl rfl (by rw [if_neg (fun y => c9 ((nI_leI hn (by omega)).mp y.2)), if_neg (fun y => c9 ((nI_leI hn (by omega)).mp y.2))] at q; exact q _ hC rfl)
end C1
