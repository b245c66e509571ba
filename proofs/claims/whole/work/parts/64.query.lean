/-! ===== the class: queries ===== -/
section C1
variable {g : am_H} {T0 T1 T : Sd} {u0 u1 : Ua} {K : Ck} {rf : Nat → Nat} {p : Nat} {S : Nat → Nat} {u td nt cc : Nat} {P Z : Nat → Nat → Nat} {TD : Nat → Nat} {hd : Nat → Bool} {tp : Nat → Int32} {pc : Int32} {W : Nat → Lw}
variable {no na : Nat} {lf : Nat → Nat}
theorem CS.kt (hC : CS g T0 u0 T1 u1 K rf p T W S u P td TD hd Z nt tp pc cc) {g' : am_H} {v0 v1 : Ua} {K' : Ck} {rf' : Nat → Nat} (t2 : CX p T (lwf W) T0 T1 g' rf') (t3 : TB T (lwf W) g' K') (t4 : KT K K') (t5 : ∀ i, i < 8 → rf' i = rf i) : CS g' T0 v0 T1 v1 K' rf' p T W S u P td TD hd Z nt tp pc cc := by
  obtain ⟨h1, h2, ⟨no, na, lf, h3⟩, h4, h5, h6, h7, h8, h9, h10⟩ := hC
  refine ⟨t2, (t5 1 (by decide)).trans h2, ⟨no, na, lf, h3.kt t4⟩, t3, ?_, h6.lk t4.lk, h7, h8, h9, h10⟩
  have e6 : K'.2.1 (rf' 6) = K.2.1 (rf 6) := by rw [t5 6 (by decide)]; exact t4.2.1 _ (by rcases h1.2.2.2.2.2.2.2.2.2.2.1 with h | h <;> omega)
  have e7 : K'.2.1 (rf' 7) = K.2.1 (rf 7) := by rw [t5 7 (by decide)]; exact t4.2.1 _ (by rcases h1.2.2.2.2.2.2.2.2.2.2.2.1 with h | h <;> omega)
  unfold FO
  rw [e6, e7, t4.1]
  exact h5
theorem CS.six (hC : CS g T0 u0 T1 u1 K rf p T W S u P td TD hd Z nt tp pc cc) : am_six (ch g T0 u0 T1 u1 K rf) := (cg_low (by decide)).trans hC.cx.2.2.2.2.2.2.2.2.2.1
theorem c_sq {Q : Option Value → am_H → Prop} (hC : CS g T0 u0 T1 u1 K rf p T W S u P td TD hd Z nt tp pc cc) {x y : Int32} (q1 : ∀ a e z : Nat, x = nI a → y = nI e → a < T.1 0 → e < T.1 1 → z ≤ 6 → T.2 0 (e * 8 + a) = nI z → Q (some (.int (nI z))) (ch g T0 u0 T1 u1 K rf)) (q0 : (x < 0 ∨ nI (T.1 0) ≤ x ∨ y < 0 ∨ nI (T.1 1) ≤ y) → Q (some (.int (-1))) (ch g T0 u0 T1 u1 K rf)) : AC am_P 0 0 94 [.ref p, .int x, .int y] (ch g T0 u0 T1 u1 K rf) Q := by
  have hp := hC.cx.1
  have hG := hC.cx.2.1
  obtain ⟨⟨g0, g0x⟩, ⟨g1, g1x⟩, ⟨g2, g2x⟩, ⟨g3, g3x⟩, g4, ⟨g5, g5x⟩, g6, gsq, goc, gwt, gsp, gfr⟩ := hG
  refine c_X7_sortAt (sa hp) (fun a e ha he h1 h2 => ?_) (fun z => q0 ?_)
  · by_cases hin : a < T.1 0 ∧ e < T.1 1
    · obtain ⟨z, hz, ez⟩ := (gsq (e * 8 + a) (by omega)).1 ⟨by omega, by omega⟩
      rw [ez]
      exact q1 a e z ha he hin.1 hin.2 hz ez
    · rw [(gsq (e * 8 + a) (by omega)).2 (by omega)]
      refine q0 ?_
      subst ha he
      by_cases h3 : a < T.1 0
      · exact Or.inr (Or.inr (Or.inr (nI_le (by omega) (by omega))))
      · exact Or.inr (Or.inl (nI_le (by omega) (by omega)))
  · rcases z with z | z | z | z
    · exact Or.inl z
    · exact Or.inr (Or.inl (Int32.le_trans (nI_le g0x (by decide)) z))
    · exact Or.inr (Or.inr (Or.inl z))
    · exact Or.inr (Or.inr (Or.inr (Int32.le_trans (nI_le g1x (by decide)) z)))
theorem c_hasKick {Q : Option Value → am_H → Prop} (hC : CS g T0 u0 T1 u1 K rf p T W S u P td TD hd Z nt tp pc cc) {x : Int32} (q1 : ∀ j : Nat, x = nI j → j < T.1 3 → Q (some (.int (nI 1))) (ch g T0 u0 T1 u1 K rf)) (q0 : (x < 0 ∨ nI (T.1 3) ≤ x) → Q (some (.int (nI 0))) (ch g T0 u0 T1 u1 K rf)) : AC am_P 0 0 96 [.ref p, .int x] (ch g T0 u0 T1 u1 K rf) Q := by
  have hp := hC.cx.1
  have hG := hC.cx.2.1
  obtain ⟨⟨g0, g0x⟩, ⟨g1, g1x⟩, ⟨g2, g2x⟩, ⟨g3, g3x⟩, g4, ⟨g5, g5x⟩, g6, gsq, goc, gwt, gsp, gfr⟩ := hG
  exact c_X7_hasKick (sa hp) (by omega) q1 q0
theorem n_spo {x : Int32} {h : Nat} (p9 : x < 0 ∨ nI h < x) : ¬ nI 0 ≤ x ∨ ¬ x ≤ nI h := p9.elim (fun z => Or.inl (Int32.not_le.mpr z)) (fun z => Or.inr (Int32.not_le.mpr z))
theorem c_X10_home {Q : Option Value → am_H → Prop} (hC : CS g T0 u0 T1 u1 K rf p T W S u P td TD hd Z nt tp pc cc) {x : Int32} {b : Bool} (q : ∀ g' u0 u1 K' rf', GX g g' K.2.2.2.2 K'.2.2.2.2 → CS g' T0 u0 T1 u1 K' rf' p T W S u P td TD hd Z nt tp pc cc → Q (some (.int (a_home T (lwf W) S x b))) (ch g' T0 u0 T1 u1 K' rf')) : AC am_P 7 176 153 [.ref 8, .int x, .int (bI b)] (ch g T0 u0 T1 u1 K rf) Q := by
  refine AC.of (ls := [_, _, _]) rfl ?_
  have hp := hC.cx.1
  have hG := hC.cx.2.1
  have hG0 := hG
  obtain ⟨⟨g0, g0x⟩, ⟨g1, g1x⟩, ⟨g2, g2x⟩, ⟨g3, g3x⟩, g4, ⟨g5, g5x⟩, g6, gsq, goc, gwt, gsp, gfr⟩ := hG
  obtain ⟨s0, s1, s2, s3, s4, s5, s6⟩ := hC.sc
  have hl96 := s0.1
  unfold a_home at q
  refine aw rfl rfl ?_
  refine aw_cs (d1 := 0) (L1 := 0) rfl rfl (by decide) (by decide) (Nat.le_of_ble_eq_true rfl) (c_X10_isSpan (fun n e hn => ?_) (fun p9 => ?_))
  · refine aw_eq rfl (fun c => absurd c (by decide)) (fun _ => ?_)
    subst e
    rw [sp_in (Nat.zero_le _) hn (by decide)] at q
    have hcn : cN T (lwf W) S n ≤ 6 ^ n := cN_le hG0
    have h6 := p6_le hn
    refine aw rfl rfl ?_
    refine aw rfl rfl ?_
    refine aw_cv (d1 := 6) (L1 := 155) rfl rfl cg_8 rfl rfl (by decide) (by decide) (Nat.le_of_ble_eq_true rfl) (c_X10_homeChance hC hn (fun g9 u0 u1 K rf hg9 hC => ?_))
    refine aw rfl rfl ?_
    refine aw rfl rfl ?_
    refine aw_cs (d1 := 1) (L1 := 25) rfl rfl (by decide) (by decide) (Nat.le_of_ble_eq_true rfl) (c_X10_fraction hC.six hn hcn ?_)
    refine aw rfl rfl ?_
    exact aw_iret rfl rfl (q _ _ _ _ _ hg9 hC)
  · refine aw_eq rfl (fun _ => ?_) (fun c => absurd (by decide) c)
    refine aw_c (v := -1) rfl (by decide) ?_
    exact aw_iret rfl rfl (by rw [sp_out (n_spo p9)] at q; exact q _ _ _ _ _ GX.rf hC)
theorem c_X10_sure {Q : Option Value → am_H → Prop} (hC : CS g T0 u0 T1 u1 K rf p T W S u P td TD hd Z nt tp pc cc) {x : Int32} (q : ∀ g' u0 u1 K' rf', GX g g' K.2.2.2.2 K'.2.2.2.2 → CS g' T0 u0 T1 u1 K' rf' p T W S u P td TD hd Z nt tp pc cc → Q (some (.int (a_sure T (lwf W) S x))) (ch g' T0 u0 T1 u1 K' rf')) : AC am_P 7 176 161 [.ref 8, .int x] (ch g T0 u0 T1 u1 K rf) Q := by
  refine AC.of (ls := [_, _]) rfl ?_
  have hp := hC.cx.1
  have hG := hC.cx.2.1
  have hG0 := hG
  obtain ⟨⟨g0, g0x⟩, ⟨g1, g1x⟩, ⟨g2, g2x⟩, ⟨g3, g3x⟩, g4, ⟨g5, g5x⟩, g6, gsq, goc, gwt, gsp, gfr⟩ := hG
  obtain ⟨s0, s1, s2, s3, s4, s5, s6⟩ := hC.sc
  have hl96 := s0.1
  unfold a_sure at q
  refine aw rfl rfl ?_
  refine aw_cs (d1 := 0) (L1 := 0) rfl rfl (by decide) (by decide) (Nat.le_of_ble_eq_true rfl) (c_X10_isSpan (fun n e hn => ?_) (fun p9 => ?_))
  · refine aw_ne rfl (fun _ => ?_) (fun c => absurd c (by decide))
    subst e
    rw [sp_in (Nat.zero_le _) hn (by decide)] at q
    have hcn : cN T (lwf W) S n ≤ 6 ^ n := cN_le hG0
    have h6 := p6_le hn
    refine aw rfl rfl ?_
    refine aw rfl rfl ?_
    refine aw_cv (d1 := 6) (L1 := 155) rfl rfl cg_8 rfl rfl (by decide) (by decide) (Nat.le_of_ble_eq_true rfl) (c_X10_homeChance hC hn (fun g9 u0 u1 K rf hg9 hC => ?_))
    refine aw rfl rfl ?_
    refine aw_cs (d1 := 0) (L1 := 0) rfl rfl (by decide) (by decide) (Nat.le_of_ble_eq_true rfl) (c_X10_sixesOf hC.six hn ?_)
    refine aw_inen rfl (fun c18 => ?_) (fun c18 => ?_)
    · refine aw_c (v := nI 0) rfl (by decide) ?_
      exact aw_iret rfl rfl (by rw [if_neg c18] at q; exact q _ _ _ _ _ hg9 hC)
    · refine aw_c (v := nI 1) rfl (by decide) ?_
      refine aw rfl rfl ?_
      exact aw_iret rfl rfl (by rw [if_pos c18] at q; exact q _ _ _ _ _ hg9 hC)
  · refine aw_ne rfl (fun c => absurd (by decide) c) (fun _ => ?_)
    refine aw_c (v := -1) rfl (by decide) ?_
    exact aw_iret rfl rfl (by rw [sp_out (n_spo p9)] at q; exact q _ _ _ _ _ GX.rf hC)
theorem c_X10_bestFrom {Q : Option Value → am_H → Prop} (hC : CS g T0 u0 T1 u1 K rf p T W S u P td TD hd Z nt tp pc cc) {s n : Nat} (hl : lieOK T (s * 3 + S 1)) (hh : hm T (s * 3 + S 1) = false) (hn1 : 1 ≤ n) (hn : n ≤ 10) (q : ∀ g' u0 u1 K' rf', GX g g' K.2.2.2.2 K'.2.2.2.2 → CS g' T0 u0 T1 u1 K' rf' p T W S u P td TD hd Z nt tp pc cc → Q (some (.int (bA T (lwf W) S (s * 3 + S 1) n))) (ch g' T0 u0 T1 u1 K' rf')) : AC am_P 6 156 160 [.ref 8, .int (nI s), .int (nI n)] (ch g T0 u0 T1 u1 K rf) Q := by
  refine AC.of (ls := [_, _, _]) rfl ?_
  have hp := hC.cx.1
  have hG := hC.cx.2.1
  have hG0 := hG
  obtain ⟨⟨g0, g0x⟩, ⟨g1, g1x⟩, ⟨g2, g2x⟩, ⟨g3, g3x⟩, g4, ⟨g5, g5x⟩, g6, gsq, goc, gwt, gsp, gfr⟩ := hG
  obtain ⟨s0, s1, s2, s3, s4, s5, s6⟩ := hC.sc
  have hl96 := s0.1
  unfold bA at q
  have hl962 := hl.1
  have hFB : ∀ l w, Fc T (lwf W) none (hm T) (n - 1) (S 4 * T.1 5 + T.1 5) l w < 300000000 := fun l w => Nat.lt_of_le_of_lt (Fc_le (r := none) hG0 (fun j z => nomatch z) _ _ l w) (Nat.lt_trans (p6_le (by omega)) (by decide))
  refine aw rfl rfl ?_
  refine aw_getf rfl cg_8 rfl ?_
  refine aw rfl rfl ?_
  refine aw_getf rfl cg_8 rfl ?_
  refine aw_getfE rfl cg_46 rfl (congrArg Value.int (hC.st 4 (by decide))) ?_
  refine aw rfl rfl ?_
  refine aw_c (v := -1) rfl (by decide) ?_
  refine aw_c (v := -1) rfl (by decide) ?_
  refine aw_cv (d1 := 5) (L1 := 129) rfl rfl cg_105 rfl rfl (by decide) (by decide) (Nat.le_of_ble_eq_true rfl) (c_lookC (r := none) (gq := none) hC (fun j z => nomatch z) (fun j z => nomatch z) (d := 0) ⟨hn, by decide⟩ (fun g9 u0 u1 K rf hg9 hC hfa hfl => ?_))
  obtain ⟨no, na, lf, hL9⟩ := hC.2.2.1
  refine aw rfl rfl ?_
  refine aw_getf rfl cg_8 rfl ?_
  refine aw rfl rfl ?_
  refine aw_getf rfl cg_8 rfl ?_
  refine aw_getfE rfl cg_46 rfl (congrArg Value.int (hC.st 4 (by decide))) ?_
  refine aw rfl rfl ?_
  refine aw rfl rfl ?_
  refine aw_getf rfl cg_8 rfl ?_
  refine aw_getfE rfl cg_46 rfl (congrArg Value.int (hC.st 1 (by decide))) ?_
  refine aw_cs (d1 := 0) (L1 := 0) rfl rfl (by decide) (by decide) (Nat.le_of_ble_eq_true rfl) (c_X10_lieOf ?_)
  refine aw rfl rfl ?_
  refine aw_getf rfl cg_8 rfl ?_
  refine aw_getfE rfl cg_46 rfl (congrArg Value.int (hC.st 2 (by decide))) ?_
  refine aw_cv (d1 := 5) (L1 := 129) rfl rfl cg_105 rfl rfl (by decide) (by decide) (Nat.le_of_ble_eq_true rfl) (c_X0_bestAction (st := S 4) hC.cx hL9 hC.2.2.2.1 (hfl hn1) hFB (by omega) hl hh (by omega) (fun g8 v0 v1 K8 rf8 t1 t2 t3 t4 t5 => ?_))
  exact aw_iret rfl rfl (q g8 v0 v1 K8 rf8 (hg9.tr t1) (hC.kt t2 t3 t4 t5))
theorem c_X10_best {Q : Option Value → am_H → Prop} (hC : CS g T0 u0 T1 u1 K rf p T W S u P td TD hd Z nt tp pc cc) {x : Int32} (q : ∀ g' u0 u1 K' rf', GX g g' K.2.2.2.2 K'.2.2.2.2 → CS g' T0 u0 T1 u1 K' rf' p T W S u P td TD hd Z nt tp pc cc → Q (some (.int (a_best T (lwf W) S x))) (ch g' T0 u0 T1 u1 K' rf')) : AC am_P 7 178 159 [.ref 8, .int x] (ch g T0 u0 T1 u1 K rf) Q := by
  refine AC.of (ls := [_, _]) rfl ?_
  have hp := hC.cx.1
  have hG := hC.cx.2.1
  have hG0 := hG
  obtain ⟨⟨g0, g0x⟩, ⟨g1, g1x⟩, ⟨g2, g2x⟩, ⟨g3, g3x⟩, g4, ⟨g5, g5x⟩, g6, gsq, goc, gwt, gsp, gfr⟩ := hG
  obtain ⟨s0, s1, s2, s3, s4, s5, s6⟩ := hC.sc
  have hl96 := s0.1
  unfold a_best at q
  have hS6 : S 6 ≤ 2 := by rcases s6 with h | h | h <;> omega
  refine aw rfl rfl ?_
  refine aw_cs (d1 := 0) (L1 := 0) rfl rfl (by decide) (by decide) (Nat.le_of_ble_eq_true rfl) (c_X10_isSpan (fun n e hn => ?_) (fun p9 => ?_))
  · refine aw_eq rfl (fun c => absurd c (by decide)) (fun _ => ?_)
    subst e
    refine aw rfl rfl ?_
    refine aw_nen rfl (fun c8 => ?_) (fun c8 => ?_)
    · have hn1 : 1 ≤ n := by omega
      rw [sp_in hn1 hn (by decide)] at q
      refine aw rfl rfl ?_
      refine aw_getf rfl cg_8 rfl ?_
      refine aw_getfE rfl cg_46 rfl (congrArg Value.int (hC.st 6 (by decide))) ?_
      refine aw_nen rfl (fun c20 => ?_) (fun c20 => ?_)
      · refine aw_c (v := -2) rfl (by decide) ?_
        exact aw_iret rfl rfl (by rw [if_neg c20] at q; exact q _ _ _ _ _ GX.rf hC)
      · refine aw rfl rfl ?_
        refine aw rfl rfl ?_
        refine aw_getf rfl cg_8 rfl ?_
        refine aw_getfE rfl cg_46 rfl (congrArg Value.int (hC.st 0 (by decide))) ?_
        refine aw rfl rfl ?_
        refine aw_cv (d1 := 6) (L1 := 156) rfl rfl cg_8 rfl rfl (by decide) (by decide) (Nat.le_of_ble_eq_true rfl) (c_X10_bestFrom hC s0 (by rcases s6 with h | h | h; omega; omega; exact h.1) hn1 hn (fun g9 u0 u1 K rf hg9 hC => ?_))
        refine aw rfl rfl ?_
        exact aw_iret rfl rfl (by rw [if_pos c20] at q; exact q _ _ _ _ _ hg9 hC)
    · refine aw_c (v := -1) rfl (by decide) ?_
      exact aw_iret rfl rfl (by subst c8; rw [sp_out (Or.inl (by decide))] at q; exact q _ _ _ _ _ GX.rf hC)
  · refine aw_eq rfl (fun _ => ?_) (fun c => absurd (by decide) c)
    refine aw_c (v := -1) rfl (by decide) ?_
    exact aw_iret rfl rfl (by rw [sp_out (p9.elim (fun z => Or.inl (fun y => absurd (Int32.lt_of_lt_of_le (by decide : (0 : Int32) < nI 1) y) (fun w => Int32.lt_irrefl (Int32.lt_trans w z)))) (fun z => Or.inr (Int32.not_le.mpr z)))] at q; exact q _ _ _ _ _ GX.rf hC)
theorem c_X10_rule {Q : Option Value → am_H → Prop} (hC : CS g T0 u0 T1 u1 K rf p T W S u P td TD hd Z nt tp pc cc) {y x : Int32} {b : Bool} (q : ∀ g' u0 u1 K' rf', GX g g' K.2.2.2.2 K'.2.2.2.2 → CS g' T0 u0 T1 u1 K' rf' p T W S u P td TD hd Z nt tp pc cc → Q (some (.int (a_rule T (lwf W) S y x b))) (ch g' T0 u0 T1 u1 K' rf')) : AC am_P 7 178 163 [.ref 8, .int y, .int x, .int (bI b)] (ch g T0 u0 T1 u1 K rf) Q := by
  refine AC.of (ls := [_, _, _, _]) rfl ?_
  have hp := hC.cx.1
  have hG := hC.cx.2.1
  have hG0 := hG
  obtain ⟨⟨g0, g0x⟩, ⟨g1, g1x⟩, ⟨g2, g2x⟩, ⟨g3, g3x⟩, g4, ⟨g5, g5x⟩, g6, gsq, goc, gwt, gsp, gfr⟩ := hG
  obtain ⟨s0, s1, s2, s3, s4, s5, s6⟩ := hC.sc
  have hl96 := s0.1
  unfold a_rule at q
  refine aw rfl rfl ?_
  refine aw_getfE rfl cg_8 rfl (congrArg Value.ref hC.cx.2.2.2.2.2.1) ?_
  refine aw rfl rfl ?_
  refine aw_cv (d1 := 0) (L1 := 0) rfl rfl (sa hp).1 rfl rfl (by decide) (by decide) (Nat.le_of_ble_eq_true rfl) (c_hasKick hC (fun j ej hj => ?_) (fun p8 => ?_))
  · refine aw_eq rfl (fun c => absurd c (by decide)) (fun _ => ?_)
    subst ej
    refine aw rfl rfl ?_
    refine aw_cs (d1 := 0) (L1 := 0) rfl rfl (by decide) (by decide) (Nat.le_of_ble_eq_true rfl) (c_X10_isSpan (fun n e hn => ?_) (fun p9 => ?_))
    · refine aw_ne rfl (fun _ => ?_) (fun c => absurd c (by decide))
      subst e
      rw [kin_yes g3x hj, sp_in (Nat.zero_le _) hn (by decide)] at q
      have hcn : (if S 6 = 2 then 0 else Fc T (lwf W) (some j) (glB T none) n (S 4 * T.1 5) (S 0 * 3 + S 1) (S 2)) ≤ 6 ^ n := by split; exact Nat.zero_le _; exact Fc_le hG0 (fun i z => by cases z; exact hj) _ _ _ _
      refine aw rfl rfl ?_
      refine aw rfl rfl ?_
      refine aw rfl rfl ?_
      refine aw_c (v := -1) rfl (by decide) ?_
      refine aw_cv (d1 := 6) (L1 := 155) rfl rfl cg_8 rfl rfl (by decide) (by decide) (Nat.le_of_ble_eq_true rfl) (c_X10_ruledChance (gq := none) hC hj (fun j z => nomatch z) hn (fun g9 u0 u1 K rf hg9 hC => ?_))
      refine aw rfl rfl ?_
      refine aw rfl rfl ?_
      refine aw_cs (d1 := 1) (L1 := 25) rfl rfl (by decide) (by decide) (Nat.le_of_ble_eq_true rfl) (c_X10_fraction hC.six hn hcn ?_)
      exact aw_iret rfl rfl (q _ _ _ _ _ hg9 hC)
    · refine aw_ne rfl (fun c => absurd (by decide) c) (fun _ => ?_)
      refine aw_c (v := -1) rfl (by decide) ?_
      exact aw_iret rfl rfl (by rw [kin_yes g3x hj, sp_out (n_spo p9)] at q; exact q _ _ _ _ _ GX.rf hC)
  · refine aw_eq rfl (fun _ => ?_) (fun c => absurd (by decide) c)
    refine aw_c (v := -1) rfl (by decide) ?_
    exact aw_iret rfl rfl (by rw [kin_no p8] at q; exact q _ _ _ _ _ GX.rf hC)
theorem c_X10_comes {Q : Option Value → am_H → Prop} (hC : CS g T0 u0 T1 u1 K rf p T W S u P td TD hd Z nt tp pc cc) {y x z1 z2 : Int32} {b : Bool} (q : ∀ g' u0 u1 K' rf', GX g g' K.2.2.2.2 K'.2.2.2.2 → CS g' T0 u0 T1 u1 K' rf' p T W S u P td TD hd Z nt tp pc cc → Q (some (.int (a_comes T (lwf W) S y x z1 z2 b))) (ch g' T0 u0 T1 u1 K' rf')) : AC am_P 7 178 165 [.ref 8, .int y, .int x, .int z1, .int z2, .int (bI b)] (ch g T0 u0 T1 u1 K rf) Q := by
  refine AC.of (ls := [_, _, _, _, _, _]) rfl ?_
  have hp := hC.cx.1
  have hG := hC.cx.2.1
  have hG0 := hG
  obtain ⟨⟨g0, g0x⟩, ⟨g1, g1x⟩, ⟨g2, g2x⟩, ⟨g3, g3x⟩, g4, ⟨g5, g5x⟩, g6, gsq, goc, gwt, gsp, gfr⟩ := hG
  obtain ⟨s0, s1, s2, s3, s4, s5, s6⟩ := hC.sc
  have hl96 := s0.1
  unfold a_comes at q
  refine aw rfl rfl ?_
  refine aw_getfE rfl cg_8 rfl (congrArg Value.ref hC.cx.2.2.2.2.2.1) ?_
  refine aw rfl rfl ?_
  refine aw_cv (d1 := 0) (L1 := 0) rfl rfl (sa hp).1 rfl rfl (by decide) (by decide) (Nat.le_of_ble_eq_true rfl) (c_hasKick hC (fun j ej hj => ?_) (fun p8 => ?_))
  · refine aw_eq rfl (fun c => absurd c (by decide)) (fun _ => ?_)
    subst ej
    refine aw rfl rfl ?_
    refine aw_cs (d1 := 0) (L1 := 0) rfl rfl (by decide) (by decide) (Nat.le_of_ble_eq_true rfl) (c_X10_isSpan (fun n e hn => ?_) (fun p9 => ?_))
    · refine aw_eq rfl (fun c => absurd c (by decide)) (fun _ => ?_)
      subst e
      rw [kin_yes g3x hj, sp_in (Nat.zero_le _) hn (by decide)] at q
      refine aw rfl rfl ?_
      refine aw_getfE rfl cg_8 rfl (congrArg Value.ref hC.cx.2.2.2.2.2.1) ?_
      refine aw rfl rfl ?_
      refine aw rfl rfl ?_
      refine aw_cv (d1 := 0) (L1 := 0) rfl rfl (sa hp).1 rfl rfl (by decide) (by decide) (Nat.le_of_ble_eq_true rfl) (c_sq hC (fun a e6 z ea ee ha he hz ez => ?_) (fun pz => ?_))
      · refine aw_c (v := -1) rfl (by decide) ?_
        refine aw_inem rfl ?_
        subst ea ee
        rw [pl_yes g0x g1x ha he] at q
        have hcn : (if S 6 = 2 then 0 else Fc T (lwf W) (some j) (glB T (some (e6 * 8 + a))) n (S 4 * T.1 5) (S 0 * 3 + S 1) (S 2)) ≤ 6 ^ n := by split; exact Nat.zero_le _; exact Fc_le hG0 (fun i z => by cases z; exact hj) _ _ _ _
        refine aw rfl rfl ?_
        refine aw rfl rfl ?_
        refine aw rfl rfl ?_
        refine aw rfl rfl ?_
        refine aw rfl rfl ?_
        refine aw_cs (d1 := 0) (L1 := 0) rfl rfl (by decide) (by decide) (Nat.le_of_ble_eq_true rfl) (c_X10_squareOf ?_)
        refine aw_cv (d1 := 6) (L1 := 155) rfl rfl cg_8 rfl rfl (by decide) (by decide) (Nat.le_of_ble_eq_true rfl) (c_X10_ruledChance (gq := some (e6 * 8 + a)) hC hj (fun i z => by cases z; omega) hn (fun g9 u0 u1 K rf hg9 hC => ?_))
        refine aw rfl rfl ?_
        refine aw rfl rfl ?_
        refine aw_cs (d1 := 1) (L1 := 25) rfl rfl (by decide) (by decide) (Nat.le_of_ble_eq_true rfl) (c_X10_fraction hC.six hn hcn ?_)
        exact aw_iret rfl rfl (q _ _ _ _ _ hg9 hC)
      · refine aw_c (v := -1) rfl (by decide) ?_
        refine aw_ine rfl (fun c => absurd (by decide) c) (fun _ => ?_)
        refine aw_c (v := -1) rfl (by decide) ?_
        exact aw_iret rfl rfl (by rw [pl_no pz] at q; exact q _ _ _ _ _ GX.rf hC)
    · refine aw_eq rfl (fun _ => ?_) (fun c => absurd (by decide) c)
      refine aw_c (v := -1) rfl (by decide) ?_
      exact aw_iret rfl rfl (by rw [kin_yes g3x hj, sp_out (n_spo p9)] at q; exact q _ _ _ _ _ GX.rf hC)
  · refine aw_eq rfl (fun _ => ?_) (fun c => absurd (by decide) c)
    refine aw_c (v := -1) rfl (by decide) ?_
    exact aw_iret rfl rfl (by rw [kin_no p8] at q; exact q _ _ _ _ _ GX.rf hC)
theorem c_X10_square {Q : Option Value → am_H → Prop} (hC : CS g T0 u0 T1 u1 K rf p T W S u P td TD hd Z nt tp pc cc) {x y : Int32} (q : Q (some (.int (pl_in T x y fun a e => T.2 0 (e * 8 + a)))) (ch g T0 u0 T1 u1 K rf)) : AC am_P 1 23 140 [.ref 8, .int x, .int y] (ch g T0 u0 T1 u1 K rf) Q := by
  refine AC.of (ls := [_, _, _]) rfl ?_
  have hp := hC.cx.1
  have hG := hC.cx.2.1
  have hG0 := hG
  obtain ⟨⟨g0, g0x⟩, ⟨g1, g1x⟩, ⟨g2, g2x⟩, ⟨g3, g3x⟩, g4, ⟨g5, g5x⟩, g6, gsq, goc, gwt, gsp, gfr⟩ := hG
  obtain ⟨s0, s1, s2, s3, s4, s5, s6⟩ := hC.sc
  have hl96 := s0.1
  refine aw rfl rfl ?_
  refine aw_getfE rfl cg_8 rfl (congrArg Value.ref hC.cx.2.2.2.2.2.1) ?_
  refine aw rfl rfl ?_
  refine aw rfl rfl ?_
  refine aw_cv (d1 := 0) (L1 := 0) rfl rfl (sa hp).1 rfl rfl (by decide) (by decide) (Nat.le_of_ble_eq_true rfl) (c_sq hC (fun a e6 z ea ee ha he hz ez => ?_) (fun pz => ?_))
  · exact aw_iret rfl rfl (by subst ea ee; rw [pl_yes g0x g1x ha he, ez] at q; exact q)
  · exact aw_iret rfl rfl (by rw [pl_no pz] at q; exact q)
theorem c_X10_cars {Q : Option Value → am_H → Prop} (hC : CS g T0 u0 T1 u1 K rf p T W S u P td TD hd Z nt tp pc cc) {x y z : Int32} (q : ∀ u0 u1, Q (some (.int (a_cars T (lwf W) x y z))) (ch g T0 u0 T1 u1 K rf)) : AC am_P 3 70 141 [.ref 8, .int x, .int y, .int z] (ch g T0 u0 T1 u1 K rf) Q := by
  refine AC.of (ls := [_, _, _, _]) rfl ?_
  have hp := hC.cx.1
  have hG := hC.cx.2.1
  have hG0 := hG
  obtain ⟨⟨g0, g0x⟩, ⟨g1, g1x⟩, ⟨g2, g2x⟩, ⟨g3, g3x⟩, g4, ⟨g5, g5x⟩, g6, gsq, goc, gwt, gsp, gfr⟩ := hG
  obtain ⟨s0, s1, s2, s3, s4, s5, s6⟩ := hC.sc
  have hl96 := s0.1
  unfold a_cars at q
  refine aw rfl rfl ?_
  refine aw_getfE rfl cg_8 rfl (congrArg Value.ref hC.cx.2.2.2.2.2.1) ?_
  refine aw rfl rfl ?_
  refine aw rfl rfl ?_
  refine aw_cv (d1 := 0) (L1 := 0) rfl rfl (sa hp).1 rfl rfl (by decide) (by decide) (Nat.le_of_ble_eq_true rfl) (c_sq hC (fun a e6 z6 ea ee ha he hz ez => ?_) (fun pz => ?_))
  · refine aw_c (v := -1) rfl (by decide) ?_
    refine aw_ieqm rfl ?_
    subst ea ee
    rw [pl_yes g0x g1x ha he] at q
    refine aw rfl rfl ?_
    refine aw_lt rfl (fun c14 => ?_) (fun c14 => ?_)
    · refine aw_c (v := -1) rfl (by decide) ?_
      exact aw_iret rfl rfl (by rw [sp_out (Or.inl (Int32.not_le.mpr c14))] at q; exact q _ _)
    · obtain ⟨n, hn, rfl⟩ := nI_of c14
      refine aw rfl rfl ?_
      refine aw_c (v := nI 9999) rfl (by decide) ?_
      refine aw_ilen rfl (fun c21 => ?_) (fun c21 => ?_)
      · rw [sp_in (Nat.zero_le _) c21 (by decide)] at q
        refine aw rfl rfl ?_
        refine aw_getfE rfl cg_8 rfl (congrArg Value.ref hC.cx.2.2.2.2.2.1) ?_
        refine aw rfl rfl ?_
        refine aw rfl rfl ?_
        refine aw_cs (d1 := 0) (L1 := 0) rfl rfl (by decide) (by decide) (Nat.le_of_ble_eq_true rfl) (c_X10_squareOf ?_)
        refine aw rfl rfl ?_
        refine aw_cv (d1 := 2) (L1 := 48) rfl rfl (sa hp).1 rfl rfl (by decide) (by decide) (Nat.le_of_ble_eq_true rfl) (c_cars hp hC.cx.2.2.1 (by omega) (fun u0 u1 hc => ?_) (fun u0 u1 hc => ?_))
        · refine aw_eq rfl (fun c => absurd c (by decide)) (fun _ => ?_)
          refine aw_c (v := nI 1) rfl (by decide) ?_
          refine aw rfl rfl ?_
          exact aw_iret rfl rfl (by rw [if_pos hc] at q; exact q _ _)
        · refine aw_eq rfl (fun _ => ?_) (fun c => absurd (by decide) c)
          refine aw_c (v := nI 0) rfl (by decide) ?_
          exact aw_iret rfl rfl (by rw [if_neg hc] at q; exact q _ _)
      · refine aw_c (v := -1) rfl (by decide) ?_
        exact aw_iret rfl rfl (by rw [sp_out (Or.inr (fun w => c21 ((nI_leI hn (by decide)).mp w)))] at q; exact q _ _)
  · refine aw_c (v := -1) rfl (by decide) ?_
    refine aw_ieq rfl (fun _ => ?_) (fun c => absurd (by decide) c)
    refine aw_c (v := -1) rfl (by decide) ?_
    exact aw_iret rfl rfl (by rw [pl_no pz] at q; exact q _ _)
end C1
