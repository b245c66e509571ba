/-! ===== the class: begin ===== -/
/-- how it lies when all begins -/
def bgS (T : Sd) : Nat → Nat := fun j => if j = 0 then (T.2 6 1).toNatClampNeg * 8 + (T.2 6 0).toNatClampNeg else if j = 1 then (T.2 6 2).toNatClampNeg else if j = 2 then T.1 4 else if j = 6 then (bif hm T (((T.2 6 1).toNatClampNeg * 8 + (T.2 6 0).toNatClampNeg) * 3 + (T.2 6 2).toNatClampNeg) then 1 else 0) else 0
theorem bg_sg {T : Sd} (hG : GS T) : SG T (bgS T) ∧ bgS T 3 = 0 ∧ bgS T 4 = 0 ∧ bgS T 5 = 0 ∧ bgS T 2 = T.1 4 := by
  obtain ⟨⟨g0, g0x⟩, ⟨g1, g1x⟩, ⟨g2, g2x⟩, ⟨g3, g3x⟩, g4, ⟨g5, g5x⟩, g6, gsq, goc, gwt, gsp, gfr⟩ := hG
  obtain ⟨a, e, f, ha, he, hf, h1, h2, h3, h4⟩ := gsp
  have ea : (T.2 6 0).toNatClampNeg = a := by rw [ha, nI_clamp (by omega)]
  have ee : (T.2 6 1).toNatClampNeg = e := by rw [he, nI_clamp (by omega)]
  have ef : (T.2 6 2).toNatClampNeg = f := by rw [hf, nI_clamp (by omega)]
  have s0 : bgS T 0 = e * 8 + a := by show (T.2 6 1).toNatClampNeg * 8 + (T.2 6 0).toNatClampNeg = _; rw [ea, ee]
  have s1 : bgS T 1 = f := ef
  have s6 : bgS T 6 = (bif hm T ((e * 8 + a) * 3 + f) then 1 else 0) := by show (bif hm T (((T.2 6 1).toNatClampNeg * 8 + (T.2 6 0).toNatClampNeg) * 3 + (T.2 6 2).toNatClampNeg) then 1 else 0) = _; rw [ea, ee, ef]
  refine ⟨?_, rfl, rfl, rfl, rfl⟩
  unfold SG
  rw [s0, s1, s6]
  refine ⟨h4, by omega, Nat.le_refl _, Nat.zero_le _, Nat.zero_le _, Nat.zero_le _, Or.inr ?_⟩
  cases hm T ((e * 8 + a) * 3 + f)
  · exact Or.inr ⟨rfl, rfl⟩
  · exact Or.inl ⟨rfl, rfl⟩
section C1
variable {g : am_H} {T0 T1 T : Sd} {u0 u1 : Ua} {K : Ck} {rf : Nat → Nat} {p : Nat} {LW : LWt} {S : Nat → Nat} {u td nt cc : Nat} {P Z : Nat → Nat → Nat} {TD : Nat → Nat} {hd : Nat → Bool} {tp : Nat → Int32} {pc : Int32}
theorem cps_118 {j : Nat} {x : Int32} (hj : j < 8) : am_up (ch g T0 u0 T1 u1 K rf) 118 (.inl (6, List.set (stf (K.2.2.1 118)) j (.int x))) = ch g T0 u0 T1 u1 (K.1, K.2.1, va_up K.2.2.1 118 (va_up (K.2.2.1 118) j x), K.2.2.2) rf := by rw [stf_up j hj]; exact cw_118
theorem cps_119 {j : Nat} {x : Int32} (hj : j < 8) : am_up (ch g T0 u0 T1 u1 K rf) 119 (.inl (6, List.set (stf (K.2.2.1 119)) j (.int x))) = ch g T0 u0 T1 u1 (K.1, K.2.1, va_up K.2.2.1 119 (va_up (K.2.2.1 119) j x), K.2.2.2) rf := by rw [stf_up j hj]; exact cw_119
theorem cps_120 {j : Nat} {x : Int32} (hj : j < 8) : am_up (ch g T0 u0 T1 u1 K rf) 120 (.inl (6, List.set (stf (K.2.2.1 120)) j (.int x))) = ch g T0 u0 T1 u1 (K.1, K.2.1, va_up K.2.2.1 120 (va_up (K.2.2.1 120) j x), K.2.2.2) rf := by rw [stf_up j hj]; exact cw_120
theorem c_X6_beginOn {Q : Option Value → am_H → Prop} (hp : SP2 p T T0 T1) (hG : GS T) (q : ∀ R : Nat → Nat → Int32, SRl (R 46) (bgS T) → (∀ n, ¬ n = 46 → R n = K.2.2.1 n) → Q none (ch g T0 u0 T1 u1 (K.1, K.2.1, R, K.2.2.2) rf)) : AC am_P 2 41 81 [.ref 46, .ref p] (ch g T0 u0 T1 u1 K rf) Q := by
  refine AC.of (ls := [_, _, _]) rfl ?_
  have hG0 := hG
  obtain ⟨⟨g0, g0x⟩, ⟨g1, g1x⟩, ⟨g2, g2x⟩, ⟨g3, g3x⟩, g4, ⟨g5, g5x⟩, g6, gsq, goc, gwt, gsp, gfr⟩ := hG
  obtain ⟨a, e, f, ha, he, hf, h1, h2, h3, h4⟩ := gsp
  have ea : (T.2 6 0).toNatClampNeg = a := by rw [ha, nI_clamp (by omega)]
  have ee : (T.2 6 1).toNatClampNeg = e := by rw [he, nI_clamp (by omega)]
  have ef : (T.2 6 2).toNatClampNeg = f := by rw [hf, nI_clamp (by omega)]
  have d3 : ((e * 8 + a) * 3 + f) / 3 = e * 8 + a := by omega
  have m3 : ((e * 8 + a) * 3 + f) % 3 = f := by omega
  refine aw rfl rfl ?_
  refine aw_cv (d1 := 1) (L1 := 21) rfl rfl (sa hp).1 rfl rfl (by decide) (by decide) (Nat.le_of_ble_eq_true rfl) (c_X7_stoneLie (sa hp) ha he hf ?_)
  refine aw_ist (ls' := [_, _, _]) rfl rfl ?_
  refine aw rfl rfl ?_
  refine aw rfl rfl ?_
  refine aw_c (v := nI 3) rfl (by decide) ?_
  refine aw_divn rfl (by omega) (by omega) (by omega) ?_
  refine aw_putfU rfl cg_46 rfl rfl (by decide) (cps_46 (by decide)) ?_
  refine aw rfl rfl ?_
  refine aw rfl rfl ?_
  refine aw_c (v := nI 3) rfl (by decide) ?_
  refine aw_remn rfl (by omega) (by omega) (by omega) ?_
  refine aw_putfU rfl cg_46 rfl rfl (by decide) (cps_46 (by decide)) ?_
  refine aw rfl rfl ?_
  refine aw rfl rfl ?_
  refine aw_getf rfl (sa hp).1 rfl ?_
  refine aw_putfU rfl cg_46 rfl rfl (by decide) (cps_46 (by decide)) ?_
  refine aw rfl rfl ?_
  refine aw_c (v := nI 0) rfl (by decide) ?_
  refine aw_putfU rfl cg_46 rfl rfl (by decide) (cps_46 (by decide)) ?_
  refine aw rfl rfl ?_
  refine aw_c (v := nI 0) rfl (by decide) ?_
  refine aw_putfU rfl cg_46 rfl rfl (by decide) (cps_46 (by decide)) ?_
  refine aw rfl rfl ?_
  refine aw_c (v := nI 0) rfl (by decide) ?_
  refine aw_putfU rfl cg_46 rfl rfl (by decide) (cps_46 (by decide)) ?_
  refine aw rfl rfl ?_
  refine aw rfl rfl ?_
  refine aw rfl rfl ?_
  refine aw_getfE rfl cg_46 rfl (congrArg Value.int (show _ = nI (((e * 8 + a) * 3 + f) / 3) from rfl)) ?_
  refine aw_cv (d1 := 0) (L1 := 0) rfl rfl (sa hp).1 rfl rfl (by decide) (by decide) (Nat.le_of_ble_eq_true rfl) (c_X7_sortOf (sa hp) (by omega) ?_)
  rw [d3]
  refine aw_c (v := nI 6) rfl (by decide) ?_
  refine aw_ine rfl (fun c53 => ?_) (fun c53 => ?_)
  · refine aw_c (v := nI 0) rfl (by decide) ?_
    refine aw_putfU rfl cg_46 rfl rfl (by decide) (cps_46 (by decide)) ?_
    refine aw_vret rfl rfl (q _ (fun j hj => ?_) (fun n hn => ?_))
    · match j, hj with
      | 0, _ => show nI (e * 8 + a) = nI ((T.2 6 1).toNatClampNeg * 8 + (T.2 6 0).toNatClampNeg); rw [ea, ee]
      | 1, _ => show nI (((e * 8 + a) * 3 + f) % 3) = nI ((T.2 6 2).toNatClampNeg); rw [ef, m3]
      | 2, _ => rfl
      | 3, _ => rfl
      | 4, _ => rfl
      | 5, _ => rfl
      | 6, _ => show nI 0 = nI (bif hm T (((T.2 6 1).toNatClampNeg * 8 + (T.2 6 0).toNatClampNeg) * 3 + (T.2 6 2).toNatClampNeg) then 1 else 0); rw [ea, ee, ef]; unfold hm; rw [d3, decide_eq_false c53]; rfl
    · simp only [va_up, if_neg hn]
  · refine aw_c (v := nI 1) rfl (by decide) ?_
    refine aw rfl rfl ?_
    refine aw_putfU rfl cg_46 rfl rfl (by decide) (cps_46 (by decide)) ?_
    refine aw_vret rfl rfl (q _ (fun j hj => ?_) (fun n hn => ?_))
    · match j, hj with
      | 0, _ => show nI (e * 8 + a) = nI ((T.2 6 1).toNatClampNeg * 8 + (T.2 6 0).toNatClampNeg); rw [ea, ee]
      | 1, _ => show nI (((e * 8 + a) * 3 + f) % 3) = nI ((T.2 6 2).toNatClampNeg); rw [ef, m3]
      | 2, _ => rfl
      | 3, _ => rfl
      | 4, _ => rfl
      | 5, _ => rfl
      | 6, _ => show nI 1 = nI (bif hm T (((T.2 6 1).toNatClampNeg * 8 + (T.2 6 0).toNatClampNeg) * 3 + (T.2 6 2).toNatClampNeg) then 1 else 0); rw [ea, ee, ef]; unfold hm; rw [d3, decide_eq_true c53]; rfl
    · simp only [va_up, if_neg hn]
theorem c_scrClear {Q : Option Value → am_H → Prop} (q : ∀ x, Q (some (.int x)) (ch g T0 u0 T1 u1 (va_up K.1 25 (nI 0), K.2) rf)) : AC am_P 0 0 70 [.ref 113] (ch g T0 u0 T1 u1 K rf) Q := by
  refine AC.of (ls := [_, _]) rfl ?_
  refine aw rfl rfl ?_
  refine aw_getf rfl cg_113 rfl ?_
  refine aw_ist (ls' := [_, _]) rfl rfl ?_
  refine aw rfl rfl ?_
  refine aw_c (v := nI 0) rfl (by decide) ?_
  refine aw_putfU rfl cg_113 rfl rfl (by decide) cp_113_1 ?_
  refine aw rfl rfl ?_
  exact aw_iret rfl rfl (q _)
theorem c_X0_follow {Q : Option Value → am_H → Prop} {p9 : Nat} (q : Q none (ch g T0 u0 T1 u1 (va_up K.1 20 (nI 0), K.2) (va_up rf 4 p9))) : AC am_P 0 0 1 [.ref 105, .ref p9] (ch g T0 u0 T1 u1 K rf) Q := by
  refine AC.of (ls := [_, _]) rfl ?_
  refine aw rfl rfl ?_
  refine aw rfl rfl ?_
  refine aw_putfU rfl cg_105 rfl rfl (by decide) cp_105_1 ?_
  refine aw rfl rfl ?_
  refine aw_c (v := nI 0) rfl (by decide) ?_
  refine aw_putfU rfl cg_105 rfl rfl (by decide) cp_105_4 ?_
  exact aw_vret rfl rfl q
theorem c_X3_follow {Q : Option Value → am_H → Prop} {p9 : Nat} (q : Q none (ch g T0 u0 T1 u1 K (va_up rf 5 p9))) : AC am_P 0 0 33 [.ref 108, .ref p9] (ch g T0 u0 T1 u1 K rf) Q := by
  refine AC.of (ls := [_, _]) rfl ?_
  refine aw rfl rfl ?_
  refine aw rfl rfl ?_
  refine aw_putfU rfl cg_108 rfl rfl (by decide) cp_108_1 ?_
  exact aw_vret rfl rfl q
theorem c_X8_follow {Q : Option Value → am_H → Prop} (hp : SP2 p T T0 T1) (hG : GS T) (q : ∀ K' no na lf, LLr T K' no na lf → (∀ i, i < 16 → K'.2.1 102 i = -1) → (∀ m, ¬ (m = 18 ∨ m = 19) → K'.1 m = K.1 m) → (∀ j, ¬ (j = 102 ∨ j = 104) → K'.2.1 j = K.2.1 j) → K'.2.2 = K.2.2 → Q none (ch g T0 u0 T1 u1 K' (va_up rf 3 p))) : AC am_P 3 65 111 [.ref 100, .ref p] (ch g T0 u0 T1 u1 K rf) Q := by
  refine AC.of (ls := [_, _]) rfl ?_
  have hct := ct_two (T := T) 96
  refine aw rfl rfl ?_
  refine aw rfl rfl ?_
  refine aw_putfU rfl cg_100 rfl rfl (by decide) cp_100_0 ?_
  refine aw rfl rfl ?_
  refine aw_getf rfl cg_100 rfl ?_
  refine aw_c (v := -1) rfl (by decide) ?_
  refine aw_cs (d1 := 0) (L1 := 0) rfl rfl (by decide) (by decide) (Nat.le_of_ble_eq_true rfl) (c_X13_fill cg_102 (by decide) (by decide) (fun y0 y0h => ?_))
  rw [cu_102]
  refine aw rfl rfl ?_
  refine aw_c (v := nI 0) rfl (by decide) ?_
  refine aw_putfU rfl cg_100 rfl rfl (by decide) cp_100_6 ?_
  refine aw rfl rfl ?_
  refine aw_c (v := nI 0) rfl (by decide) ?_
  refine aw_cv (d1 := 2) (L1 := 43) rfl rfl cg_100 rfl rfl (by decide) (by decide) (Nat.le_of_ble_eq_true rfl) (c_X8_listLies (b := false) (c0 := 0) (lf0 := fun _ => 0) hp hG vu_at rfl (by omega) (fun j hj => absurd hj (Nat.not_lt_zero _)) (fun y1 f1 i1 => ?_))
  refine aw rfl rfl ?_
  refine aw rfl rfl ?_
  refine aw_getfE rfl cg_100 rfl (congrArg Value.int (show _ = nI (0 + ctN (selB T false) 96) from rfl)) ?_
  refine aw_putfU rfl cg_100 rfl rfl (by decide) cp_100_5 ?_
  refine aw rfl rfl ?_
  refine aw_c (v := nI 1) rfl (by decide) ?_
  refine aw_cv (d1 := 2) (L1 := 43) rfl rfl cg_100 rfl rfl (by decide) (by decide) (Nat.le_of_ble_eq_true rfl) (c_X8_listLies (b := true) (c0 := 0 + ctN (selB T false) 96) (lf0 := f1) hp hG vu_at rfl (by omega) i1.1 (fun y2 f2 i2 => ?_))
  exact aw_vret rfl rfl (by
    obtain ⟨b1, b2, b3, b4, b5⟩ := i2
    obtain ⟨a1, a2, a3, a4, a5⟩ := i1
    have hno : ∀ j, j < 0 + ctN (selB T false) 96 → f2 j = f1 j := fun j hj => b2 j hj
    refine q _ (0 + ctN (selB T false) 96) (0 + ctN (selB T false) 96 + ctN (selB T true) 96) f2 ⟨by omega, by omega, rfl, rfl, fun i hi => ⟨b1 i hi, ?_⟩, fun i hi => ?_, fun i h1 h2 => (b3 i h1 h2).2.2, fun i j hi hj e9 => ?_, fun l hl hh => ?_, fun l hl hh => ?_⟩ (fun i hi => y0h i hi) (fun m hm => ?_) (fun j hj => ?_) rfl
    · by_cases h9 : i < 0 + ctN (selB T false) 96
      · rw [hno i h9]; exact (a3 i (Nat.zero_le _) h9).2.1
      · exact (b3 i (by omega) hi).2.1
    · rw [hno i hi]; exact (a3 i (Nat.zero_le _) hi).2.2
    · rw [hno i hi, hno j hj] at e9
      rcases Nat.lt_trichotomy i j with w | w | w
      · have := a4 i j (Nat.zero_le _) w hj; omega
      · exact w
      · have := a4 j i (Nat.zero_le _) w hi; omega
    · obtain ⟨j, j1, j2, j3⟩ := a5 l hl.1 hl hh
      exact ⟨j, j2, by rw [hno j j2]; exact j3⟩
    · obtain ⟨j, j1, j2, j3⟩ := b5 l hl.1 hl hh
      exact ⟨j, j1, j2, j3⟩
    · (have e18 : ¬ m = 18 := by omega); (have e19 : ¬ m = 19 := by omega); simp only [va_up, if_neg e18, if_neg e19]
    · (have e1 : ¬ j = 102 := by omega); (have e2 : ¬ j = 104 := by omega); simp only [va_up, if_neg e1, if_neg e2])
end C1
