/-! ===== the class: fits, often (2) ===== -/
theorem va_id {α : Type} {f : Nat → α} : va_up (va_up f 117 (f 117)) 116 (f 116) = f := by
  funext n
  unfold va_up
  by_cases e : n = 116
  · rw [if_pos e, e]
  · rw [if_neg e]
    by_cases e2 : n = 117
    · rw [if_pos e2, e2]
    · rw [if_neg e2]
section C1
variable {g : am_H} {T0 T1 T : Sd} {u0 u1 : Ua} {K : Ck} {rf : Nat → Nat} {p : Nat} {S : Nat → Nat} {u td nt cc : Nat} {P Z : Nat → Nat → Nat} {TD : Nat → Nat} {hd : Nat → Bool} {tp : Nat → Int32} {pc : Int32} {W : Nat → Lw}
variable {no na : Nat} {lf : Nat → Nat}
theorem c_howManyC {Q : Option Value → am_H → Prop} (hG : GS T) (h26 : K.1 26 = nI (T.1 3)) (h27 : K.1 27 = nI (stF T)) {k : Nat} (hk : k ≤ 5) (h32 : ∀ i, i < k → TD i < 32) (hW : WYr T (lwf W) TD (K.2.1 115) k) (q : ∀ y1 y2, Q (some (.int (nI (ctN (ftP T (lwf W) TD k) (4 ^ k))))) (ch g T0 u0 T1 u1 (K.1, va_up (va_up K.2.1 117 y2) 116 y1, K.2.2) rf)) : AC am_P 3 94 76 [.ref 113, .int (nI k)] (ch g T0 u0 T1 u1 K rf) Q := by
  have h := c_X5_howMany (g := g) (T0 := T0) (u0 := u0) (T1 := T1) (u1 := u1) (K := K) (rf := rf) (Q := Q) (z1 := K.2.1 116) (z2 := K.2.1 117) hG h26 h27 hk h32 hW q
  rw [va_id] at h
  exact h
theorem c_codeOfC {Q : Option Value → am_H → Prop} (hG : GS T) (h26 : K.1 26 = nI (T.1 3)) (h27 : K.1 27 = nI (stF T)) {k : Nat} (hk : k ≤ 5) (h32 : ∀ i, i < k → TD i < 32) (hW : WYr T (lwf W) TD (K.2.1 115) k) {x : Int32} (q : ∀ y1 y2, Q (some (.int (exI (nthF (ftP T (lwf W) TD k) x (4 ^ k) 0 0)))) (ch g T0 u0 T1 u1 (K.1, va_up (va_up K.2.1 117 y2) 116 y1, K.2.2) rf)) : AC am_P 3 94 79 [.ref 113, .int (nI k), .int x] (ch g T0 u0 T1 u1 K rf) Q := by
  have h := c_X5_codeOf (g := g) (T0 := T0) (u0 := u0) (T1 := T1) (u1 := u1) (K := K) (rf := rf) (Q := Q) (z1 := K.2.1 116) (z2 := K.2.1 117) hG h26 h27 hk h32 hW q
  rw [va_id] at h
  exact h
theorem c_X5_knows {Q : Option Value → am_H → Prop} (h5 : td ≤ 5) (h25 : K.1 25 = nI td) {x : Int32} (q1 : ∀ n, x = nI n → n ≤ td → Q (some (.int (nI 1))) (ch g T0 u0 T1 u1 K rf)) (q0 : (¬ nI 0 ≤ x ∨ ¬ x ≤ nI td) → Q (some (.int (nI 0))) (ch g T0 u0 T1 u1 K rf)) : AC am_P 0 0 72 [.ref 113, .int x] (ch g T0 u0 T1 u1 K rf) Q := by
  refine AC.of (ls := [_, _]) rfl ?_
  refine aw rfl rfl ?_
  refine aw_lt rfl (fun c1 => ?_) (fun c1 => ?_)
  · refine aw_c (v := nI 0) rfl (by decide) ?_
    exact aw_iret rfl rfl (q0 (Or.inl (Int32.not_le.mpr c1)))
  · obtain ⟨n, hn, rfl⟩ := nI_of c1
    refine aw rfl rfl ?_
    refine aw rfl rfl ?_
    refine aw_getfE rfl cg_113 rfl (congrArg Value.int h25) ?_
    refine aw_igtn rfl (fun c9 => ?_) (fun c9 => ?_)
    · refine aw_c (v := nI 0) rfl (by decide) ?_
      exact aw_iret rfl rfl (q0 (Or.inr (fun w => absurd ((nI_leI hn (by omega)).mp w) (by omega))))
    · refine aw_c (v := nI 1) rfl (by decide) ?_
      refine aw rfl rfl ?_
      exact aw_iret rfl rfl (q1 n rfl (by omega))
theorem c_X10_fits {Q : Option Value → am_H → Prop} (hC : CS g T0 u0 T1 u1 K rf p T W S u P td TD hd Z nt tp pc cc) {y x : Int32} (q : ∀ u0 u1 K', CS g T0 u0 T1 u1 K' rf p T W S u P td TD hd Z nt tp pc cc → K'.2.2.2.2 = K.2.2.2.2 → Q (some (.int (a_fits T (lwf W) TD td y x))) (ch g T0 u0 T1 u1 K' rf)) : AC am_P 6 154 179 [.ref 8, .int y, .int x] (ch g T0 u0 T1 u1 K rf) Q := by
  refine AC.of (ls := [_, _, _]) rfl ?_
  have hp := hC.cx.1
  have hG := hC.cx.2.1
  have hG0 := hG
  obtain ⟨⟨g0, g0x⟩, ⟨g1, g1x⟩, ⟨g2, g2x⟩, ⟨g3, g3x⟩, g4, ⟨g5, g5x⟩, g6, gsq, goc, gwt, gsp, gfr⟩ := hG
  obtain ⟨s0, s1, s2, s3, s4, s5, s6⟩ := hC.sc
  have hl96 := s0.1
  have t5 := hC.tdr.1
  have tin := hC.tdr.2.2
  unfold a_fits at q
  refine aw rfl rfl ?_
  refine aw_getf rfl cg_8 rfl ?_
  refine aw rfl rfl ?_
  refine aw_cv (d1 := 0) (L1 := 0) rfl rfl cg_113 rfl rfl (by decide) (by decide) (Nat.le_of_ble_eq_true rfl) (c_X5_knows hC.tdr.1 hC.tdr.2.1 (fun n e hn => ?_) (fun p9 => ?_))
  · refine aw_eq rfl (fun c => absurd c (by decide)) (fun _ => ?_)
    subst e
    rw [sp_in (Nat.zero_le _) hn (by omega)] at q
    refine aw rfl rfl ?_
    refine aw_c (v := -1) rfl (by decide) ?_
    refine aw_ige rfl (fun c13 => ?_) (fun c13 => ?_)
    · rw [if_neg (Int32.not_lt.mpr c13)] at q
      refine aw rfl rfl ?_
      refine aw_getf rfl cg_8 rfl ?_
      refine aw rfl rfl ?_
      refine aw_getfE rfl cg_8 rfl (congrArg Value.ref hC.cx.2.2.2.2.2.1) ?_
      refine aw rfl rfl ?_
      refine aw_cv (d1 := 5) (L1 := 129) rfl rfl cg_113 rfl rfl (by decide) (by decide) (Nat.le_of_ble_eq_true rfl) (c_X5_weigh hC hn (fun y u0 u1 hW => ?_))
      refine aw rfl rfl ?_
      refine aw_c (v := -1) rfl (by decide) ?_
      refine aw_ine rfl (fun c32 => ?_) (fun c32 => ?_)
      · refine aw rfl rfl ?_
        refine aw_getf rfl cg_8 rfl ?_
        refine aw rfl rfl ?_
        refine aw rfl rfl ?_
        refine aw_cv (d1 := 3) (L1 := 94) rfl rfl cg_113 rfl rfl (by decide) (by decide) (Nat.le_of_ble_eq_true rfl) (c_codeOfC (K := (va_up (va_up K.1 26 (nI (T.1 3))) 27 (nI (stF T)), va_up K.2.1 115 y, K.2.2)) hG0 rfl rfl (by omega) (fun i hi => (tin i (by omega)).2.1) hW (fun y1 y2 => ?_))
        exact aw_iret rfl rfl (by rw [if_neg c32] at q; exact q u0 u1 _ (hC.w ⟨fun n hn => by simp at hn; exact (vu_ot hn.2).trans (vu_ot hn.1), fun n hn => by simp at hn; exact (vu_ot hn.2.1).trans ((vu_ot hn.2.2).trans (vu_ot hn.1)), fun _ _ => rfl, rfl⟩) rfl)
      · refine aw rfl rfl ?_
        refine aw_getf rfl cg_8 rfl ?_
        refine aw rfl rfl ?_
        refine aw_cv (d1 := 3) (L1 := 94) rfl rfl cg_113 rfl rfl (by decide) (by decide) (Nat.le_of_ble_eq_true rfl) (c_howManyC (K := (va_up (va_up K.1 26 (nI (T.1 3))) 27 (nI (stF T)), va_up K.2.1 115 y, K.2.2)) hG0 rfl rfl (by omega) (fun i hi => (tin i (by omega)).2.1) hW (fun y1 y2 => ?_))
        refine aw rfl rfl ?_
        exact aw_iret rfl rfl (by rw [if_pos c32] at q; exact q u0 u1 _ (hC.w ⟨fun n hn => by simp at hn; exact (vu_ot hn.2).trans (vu_ot hn.1), fun n hn => by simp at hn; exact (vu_ot hn.2.1).trans ((vu_ot hn.2.2).trans (vu_ot hn.1)), fun _ _ => rfl, rfl⟩) rfl)
    · refine aw_c (v := -1) rfl (by decide) ?_
      exact aw_iret rfl rfl (by rw [if_pos (Int32.not_le.mp c13)] at q; exact q u0 u1 K hC rfl)
  · refine aw_eq rfl (fun _ => ?_) (fun c => absurd (by decide) c)
    refine aw_c (v := -1) rfl (by decide) ?_
    exact aw_iret rfl rfl (by rw [sp_out p9] at q; exact q u0 u1 K hC rfl)
theorem c_codeOfC2 {Q : Option Value → am_H → Prop} (hG : GS T) (h26 : K.1 26 = nI (T.1 3)) (h27 : K.1 27 = nI (stF T)) {k : Nat} (hk : k ≤ 5) (h32 : ∀ i, i < k → TD i < 32) (hW : WYr T (lwf W) TD (K.2.1 115) k) {x : Int32} (q1 : ∀ d, nthF (ftP T (lwf W) TD k) x (4 ^ k) 0 0 = some d → ∀ y1 y2, Q (some (.int (nI d))) (ch g T0 u0 T1 u1 (K.1, va_up (va_up K.2.1 117 y2) 116 y1, K.2.2) rf)) (q0 : nthF (ftP T (lwf W) TD k) x (4 ^ k) 0 0 = none → ∀ y1 y2, Q (some (.int (-1))) (ch g T0 u0 T1 u1 (K.1, va_up (va_up K.2.1 117 y2) 116 y1, K.2.2) rf)) : AC am_P 3 94 79 [.ref 113, .int (nI k), .int x] (ch g T0 u0 T1 u1 K rf) Q := by
  refine c_codeOfC hG h26 h27 hk h32 hW (fun y1 y2 => ?_)
  cases e : nthF (ftP T (lwf W) TD k) x (4 ^ k) 0 0 with
  | some d => exact q1 d e _ _
  | none => exact q0 e _ _
theorem c_X10_often {Q : Option Value → am_H → Prop} (hC : CS g T0 u0 T1 u1 K rf p T W S u P td TD hd Z nt tp pc cc) {y x : Int32} (q : ∀ u0 u1 K', CS g T0 u0 T1 u1 K' rf p T W S u P td TD hd Z nt tp pc cc → K'.2.2.2.2 = K.2.2.2.2 → Q (some (.int (a_often T (lwf W) TD td y x))) (ch g T0 u0 T1 u1 K' rf)) : AC am_P 6 154 180 [.ref 8, .int y, .int x] (ch g T0 u0 T1 u1 K rf) Q := by
  refine AC.of (ls := [_, _, _, _]) rfl ?_
  have hp := hC.cx.1
  have hG := hC.cx.2.1
  have hG0 := hG
  obtain ⟨⟨g0, g0x⟩, ⟨g1, g1x⟩, ⟨g2, g2x⟩, ⟨g3, g3x⟩, g4, ⟨g5, g5x⟩, g6, gsq, goc, gwt, gsp, gfr⟩ := hG
  obtain ⟨s0, s1, s2, s3, s4, s5, s6⟩ := hC.sc
  have hl96 := s0.1
  have t5 := hC.tdr.1
  have tin := hC.tdr.2.2
  unfold a_often at q
  refine aw rfl rfl ?_
  refine aw_getf rfl cg_8 rfl ?_
  refine aw rfl rfl ?_
  refine aw_cv (d1 := 0) (L1 := 0) rfl rfl cg_113 rfl rfl (by decide) (by decide) (Nat.le_of_ble_eq_true rfl) (c_X5_knows hC.tdr.1 hC.tdr.2.1 (fun n e hn => ?_) (fun p9 => ?_))
  · refine aw_eq rfl (fun c => absurd c (by decide)) (fun _ => ?_)
    subst e
    rw [sp_in (Nat.zero_le _) hn (by omega)] at q
    have h44 := p4_le (show n ≤ 5 by omega)
    refine aw rfl rfl ?_
    refine aw_ge rfl (fun c12 => ?_) (fun c12 => ?_)
    · rw [if_neg (Int32.not_lt.mpr c12)] at q
      refine aw rfl rfl ?_
      refine aw_getf rfl cg_8 rfl ?_
      refine aw rfl rfl ?_
      refine aw_getfE rfl cg_8 rfl (congrArg Value.ref hC.cx.2.2.2.2.2.1) ?_
      refine aw rfl rfl ?_
      refine aw_cv (d1 := 5) (L1 := 129) rfl rfl cg_113 rfl rfl (by decide) (by decide) (Nat.le_of_ble_eq_true rfl) (c_X5_weigh hC hn (fun y u0 u1 hW => ?_))
      refine aw rfl rfl ?_
      refine aw_getf rfl cg_8 rfl ?_
      refine aw rfl rfl ?_
      refine aw rfl rfl ?_
      refine aw_cv (d1 := 3) (L1 := 94) rfl rfl cg_113 rfl rfl (by decide) (by decide) (Nat.le_of_ble_eq_true rfl) (c_codeOfC2 (K := (va_up (va_up K.1 26 (nI (T.1 3))) 27 (nI (stF T)), va_up K.2.1 115 y, K.2.2)) hG0 rfl rfl (by omega) (fun i hi => (tin i (by omega)).2.1) hW (fun d hd y1 y2 => ?_) (fun hd y1 y2 => ?_))
      · have hd1 : d < 4 ^ n := by have := nthF_lt _ _ _ _ hd; omega
        refine aw_ist (ls' := [_, _, _, _]) rfl rfl ?_
        refine aw rfl rfl ?_
        refine aw_c (v := -1) rfl (by decide) ?_
        refine aw_inem rfl ?_
        refine aw rfl rfl ?_
        refine aw_getf rfl cg_8 rfl ?_
        refine aw rfl rfl ?_
        refine aw rfl rfl ?_
        refine aw_cv (d1 := 2) (L1 := 69) rfl rfl cg_113 rfl rfl (by decide) (by decide) (Nat.le_of_ble_eq_true rfl) (c_X5_weight (K := (va_up (va_up K.1 26 (nI (T.1 3))) 27 (nI (stF T)), va_up K.2.1 115 y, K.2.2)) hG0 rfl rfl (by omega) (fun i hi => (tin i (by omega)).2.1) hW hd1 (fun y1 y2 => ?_))
        exact aw_iret rfl rfl (by rw [hd] at q; exact q u0 u1 _ (hC.w ⟨fun n hn => by simp at hn; exact (vu_ot hn.2).trans (vu_ot hn.1), fun n hn => by simp at hn; exact (vu_ot hn.2.1).trans ((vu_ot hn.2.2).trans (vu_ot hn.1)), fun _ _ => rfl, rfl⟩) rfl)
      · refine aw_ist (ls' := [_, _, _, _]) rfl rfl ?_
        refine aw rfl rfl ?_
        refine aw_c (v := -1) rfl (by decide) ?_
        refine aw_ine rfl (fun c => absurd (by decide) c) (fun _ => ?_)
        refine aw_c (v := -1) rfl (by decide) ?_
        refine aw rfl rfl ?_
        exact aw_iret rfl rfl (by rw [hd] at q; exact q u0 u1 _ (hC.w ⟨fun n hn => by simp at hn; exact (vu_ot hn.2).trans (vu_ot hn.1), fun n hn => by simp at hn; exact (vu_ot hn.2.1).trans ((vu_ot hn.2.2).trans (vu_ot hn.1)), fun _ _ => rfl, rfl⟩) rfl)
    · refine aw_c (v := -1) rfl (by decide) ?_
      exact aw_iret rfl rfl (by rw [if_pos (Int32.not_le.mp c12)] at q; exact q u0 u1 K hC rfl)
  · refine aw_eq rfl (fun _ => ?_) (fun c => absurd (by decide) c)
    refine aw_c (v := -1) rfl (by decide) ?_
    exact aw_iret rfl rfl (by rw [sp_out p9] at q; exact q u0 u1 K hC rfl)
end C1
