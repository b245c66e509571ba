/-! ===== the class: least ===== -/
section C1
variable {g : am_H} {T0 T1 T : Sd} {u0 u1 : Ua} {K : Ck} {rf : Nat → Nat} {p : Nat} {S : Nat → Nat} {u td nt cc : Nat} {P Z : Nat → Nat → Nat} {TD : Nat → Nat} {hd : Nat → Bool} {tp : Nat → Int32} {pc : Int32} {W : Nat → Lw}
variable {no na : Nat} {lf : Nat → Nat}
theorem c_X10_least {Q : Option Value → am_H → Prop} (hC : CS g T0 u0 T1 u1 K rf p T W S u P td TD hd Z nt tp pc cc) {x : Int32} (q : ∀ g' u0 u1 K' rf', GX g g' K.2.2.2.2 K'.2.2.2.2 → CS g' T0 u0 T1 u1 K' rf' p T W S u P td TD hd Z nt tp pc cc → Q (some (.int (a_least T (lwf W) S x))) (ch g' T0 u0 T1 u1 K' rf')) : AC am_P 7 176 162 [.ref 8, .int x] (ch g T0 u0 T1 u1 K rf) Q := by
  refine AC.of (ls := [_, _, _]) rfl ?_
  have hp := hC.cx.1
  have hG := hC.cx.2.1
  have hG0 := hG
  obtain ⟨⟨g0, g0x⟩, ⟨g1, g1x⟩, ⟨g2, g2x⟩, ⟨g3, g3x⟩, g4, ⟨g5, g5x⟩, g6, gsq, goc, gwt, gsp, gfr⟩ := hG
  obtain ⟨s0, s1, s2, s3, s4, s5, s6⟩ := hC.sc
  have hl96 := s0.1
  unfold a_least at q
  refine aw rfl rfl ?_
  refine aw_lt rfl (fun c1 => ?_) (fun c1 => ?_)
  · refine aw_c (v := -1) rfl (by decide) ?_
    exact aw_iret rfl rfl (by rw [sp_out (Or.inl (Int32.not_le.mpr c1))] at q; exact q _ _ _ _ _ GX.rf hC)
  · obtain ⟨n, hn, rfl⟩ := nI_of c1
    refine aw rfl rfl ?_
    refine aw_c (v := nI 100) rfl (by decide) ?_
    refine aw_ilen rfl (fun c7 => ?_) (fun c7 => ?_)
    · rw [sp_in (Nat.zero_le _) c7 (by decide)] at q
      refine aw_c (v := nI 0) rfl (by decide) ?_
      refine aw_ist (ls' := [_, _, _]) rfl rfl ?_
      have key : ∀ m i g u0 u1 K rf, i + m = 11 → CS g T0 u0 T1 u1 K rf p T W S u P td TD hd Z nt tp pc cc → (∀ g' u0 u1 K' rf', GX g g' K.2.2.2.2 K'.2.2.2.2 → CS g' T0 u0 T1 u1 K' rf' p T W S u P td TD hd Z nt tp pc cc → Q (some (.int (fnd (fun k => decide (n * 6 ^ k ≤ 100 * cN T (lwf W) S k)) m i))) (ch g' T0 u0 T1 u1 K' rf')) → AW am_P 7 176 162 14 [some (.ref 8), some (.int (nI n)), some (.int (nI i))] [] (ch g T0 u0 T1 u1 K rf) Q := by
        intro m
        induction m with
        | zero =>
          intro i g u0 u1 K rf hi hC q
          refine aw rfl rfl ?_
          refine aw_c (v := nI 10) rfl (by decide) ?_
          refine aw_igtn rfl (fun c17 => ?_) (fun c17 => by omega)
          refine aw_c (v := -2) rfl (by decide) ?_
          exact aw_iret rfl rfl (q _ _ _ _ _ GX.rf hC)
        | succ m ih =>
          intro i g u0 u1 K rf hi hC q
          have hn : i ≤ 10 := by omega
          have hcn : cN T (lwf W) S i ≤ 6 ^ i := cN_le hG0
          have h6 := p6_le hn
          rw [fnd] at q
          refine aw rfl rfl ?_
          refine aw_c (v := nI 10) rfl (by decide) ?_
          refine aw_igtn rfl (fun c17 => by omega) (fun c17 => ?_)
          refine aw rfl rfl ?_
          refine aw rfl rfl ?_
          refine aw rfl rfl ?_
          refine aw_cv (d1 := 6) (L1 := 155) rfl rfl cg_8 rfl rfl (by decide) (by decide) (Nat.le_of_ble_eq_true rfl) (c_X10_homeChance hC hn (fun g9 u0 u1 K rf hg9 hC => ?_))
          refine aw rfl rfl ?_
          refine aw rfl rfl ?_
          refine aw rfl rfl ?_
          refine aw rfl rfl ?_
          refine aw rfl rfl ?_
          refine aw_cs (d1 := 0) (L1 := 0) rfl rfl (by decide) (by decide) (Nat.le_of_ble_eq_true rfl) (c_X10_sixesOf hC.six hn ?_)
          refine aw rfl rfl ?_
          refine aw rfl rfl ?_
          refine aw rfl rfl ?_
          refine aw_lt rfl (fun c39 => ?_) (fun c39 => ?_)
          · refine aw_incn (c := 1) (ls' := [_, _, _]) rfl rfl (by decide) rfl ?_
            refine aw rfl rfl ?_
            exact ih (i + 1) _ _ _ _ _ (by omega) hC (by rw [decide_eq_false ((n_l100 (by omega) c7 (by omega)).mp c39)] at q; exact fun g8 v0 v1 K8 rf8 h8 h9 => q g8 v0 v1 K8 rf8 (hg9.tr h8) h9)
          · refine aw rfl rfl ?_
            exact aw_iret rfl rfl (by rw [decide_eq_true (Decidable.of_not_not (fun y => c39 ((n_l100 (by omega) c7 (by omega)).mpr y)))] at q; exact q _ _ _ _ _ hg9 hC)
      exact key 11 0 _ _ _ _ _ rfl hC q
    · refine aw_c (v := -1) rfl (by decide) ?_
      exact aw_iret rfl rfl (by rw [sp_out (Or.inr (fun w => c7 ((nI_leI hn (by decide)).mp w)))] at q; exact q _ _ _ _ _ GX.rf hC)
end C1
