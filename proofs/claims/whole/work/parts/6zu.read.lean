/-! ===== the class: begin, read ===== -/
def BGf (T : Sd) (K K' : Ck) : Prop := SRl (K'.2.2.1 46) (bgS T) ∧ K'.1 16 = nI 0 ∧ K'.1 17 = nI 0 ∧ K'.1 25 = nI 0 ∧ (∀ s, s < 3 → K'.2.2.1 (118 + s) 7 = nI 0) ∧ (∃ no na lf, LLr T K' no na lf) ∧ (∀ i, i < 16 → K'.2.1 102 i = -1) ∧ K'.1 20 = nI 0 ∧ K'.1 0 = K.1 0 ∧ K'.1 1 = K.1 1 ∧ K'.2.1 9 = K.2.1 9 ∧ K'.2.2.2 = K.2.2.2
def rf3 (rf : Nat → Nat) (p : Nat) : Nat → Nat := va_up (va_up (va_up rf 3 p) 4 p) 5 p
section C1
variable {g : am_H} {T0 T1 T : Sd} {u0 u1 : Ua} {K : Ck} {rf : Nat → Nat} {p : Nat} {LW : LWt} {S : Nat → Nat} {u td nt cc : Nat} {P Z : Nat → Nat → Nat} {TD : Nat → Nat} {hd : Nat → Bool} {tp : Nat → Int32} {pc : Int32}
theorem c_X10_begin {Q : Option Value → am_H → Prop} (hp : SP2 p T T0 T1) (hG : GS T) (hr0 : rf 0 = p) (q : ∀ K', BGf T K K' → Q none (ch g T0 u0 T1 u1 K' (rf3 rf p))) : AC am_P 4 86 129 [.ref 8] (ch g T0 u0 T1 u1 K rf) Q := by
  refine AC.of (ls := [_, _]) rfl ?_
  refine aw rfl rfl ?_
  refine aw_getf rfl cg_8 rfl ?_
  refine aw rfl rfl ?_
  refine aw_getfE rfl cg_8 rfl (congrArg Value.ref hr0) ?_
  refine aw_cv (d1 := 2) (L1 := 41) rfl rfl cg_46 rfl rfl (by decide) (by decide) (Nat.le_of_ble_eq_true rfl) (c_X6_beginOn hp hG (fun R hR46 hRn => ?_))
  refine aw rfl rfl ?_
  refine aw_getf rfl cg_8 rfl ?_
  refine aw_cv (d1 := 0) (L1 := 0) rfl rfl cg_47 rfl rfl (by decide) (by decide) (Nat.le_of_ble_eq_true rfl) (c_X2_clear ?_)
  refine aw rfl rfl ?_
  refine aw_getf rfl cg_8 rfl ?_
  refine aw_cv (d1 := 0) (L1 := 0) rfl rfl cg_113 rfl rfl (by decide) (by decide) (Nat.le_of_ble_eq_true rfl) (c_scrClear (fun x9 => ?_))
  refine aw rfl rfl ?_
  refine aw_c (v := nI 0) rfl (by decide) ?_
  refine aw_ist (ls' := [_, _]) rfl rfl ?_
  refine aw rfl rfl ?_
  refine aw rfl rfl ?_
  refine aw_getf rfl cg_8 rfl ?_
  refine aw_alen rfl cg_99 rfl ?_
  refine aw_ige rfl (fun c => absurd c (by decide)) (fun _ => ?_)
  refine aw rfl rfl ?_
  refine aw_getf rfl cg_8 rfl ?_
  refine aw rfl rfl ?_
  refine aw_aald (k := 0) rfl cg_99 rfl (by decide) (by decide) (show n_slots 0 = some 118 from rfl) ?_
  refine aw_c (v := nI 0) rfl (by decide) ?_
  refine aw_putfU rfl cg_118 rfl rfl (by decide) (cps_118 (by decide)) ?_
  refine aw_incc (c := nI 1) (y := nI 1) (ls' := [_, _]) rfl rfl (by decide) (by decide) rfl ?_
  refine aw rfl rfl ?_
  refine aw rfl rfl ?_
  refine aw rfl rfl ?_
  refine aw_getf rfl cg_8 rfl ?_
  refine aw_alen rfl cg_99 rfl ?_
  refine aw_ige rfl (fun c => absurd c (by decide)) (fun _ => ?_)
  refine aw rfl rfl ?_
  refine aw_getf rfl cg_8 rfl ?_
  refine aw rfl rfl ?_
  refine aw_aald (k := 1) rfl cg_99 rfl (by decide) (by decide) (show n_slots 1 = some 119 from rfl) ?_
  refine aw_c (v := nI 0) rfl (by decide) ?_
  refine aw_putfU rfl cg_119 rfl rfl (by decide) (cps_119 (by decide)) ?_
  refine aw_incc (c := nI 1) (y := nI 2) (ls' := [_, _]) rfl rfl (by decide) (by decide) rfl ?_
  refine aw rfl rfl ?_
  refine aw rfl rfl ?_
  refine aw rfl rfl ?_
  refine aw_getf rfl cg_8 rfl ?_
  refine aw_alen rfl cg_99 rfl ?_
  refine aw_ige rfl (fun c => absurd c (by decide)) (fun _ => ?_)
  refine aw rfl rfl ?_
  refine aw_getf rfl cg_8 rfl ?_
  refine aw rfl rfl ?_
  refine aw_aald (k := 2) rfl cg_99 rfl (by decide) (by decide) (show n_slots 2 = some 120 from rfl) ?_
  refine aw_c (v := nI 0) rfl (by decide) ?_
  refine aw_putfU rfl cg_120 rfl rfl (by decide) (cps_120 (by decide)) ?_
  refine aw_incc (c := nI 1) (y := nI 3) (ls' := [_, _]) rfl rfl (by decide) (by decide) rfl ?_
  refine aw rfl rfl ?_
  refine aw rfl rfl ?_
  refine aw rfl rfl ?_
  refine aw_getf rfl cg_8 rfl ?_
  refine aw_alen rfl cg_99 rfl ?_
  refine aw_ige rfl (fun _ => ?_) (fun c => absurd (by decide) c)
  refine aw rfl rfl ?_
  refine aw_getf rfl cg_8 rfl ?_
  refine aw rfl rfl ?_
  refine aw_getfE rfl cg_8 rfl (congrArg Value.ref hr0) ?_
  refine aw_cv (d1 := 3) (L1 := 65) rfl rfl cg_100 rfl rfl (by decide) (by decide) (Nat.le_of_ble_eq_true rfl) (c_X8_follow hp hG (fun K1 no na lf l1 l2 l3 l4 l5 => ?_))
  refine aw rfl rfl ?_
  refine aw_getf rfl cg_8 rfl ?_
  refine aw rfl rfl ?_
  refine aw_getfE rfl cg_8 rfl (congrArg Value.ref (show _ = p from hr0)) ?_
  refine aw_cv (d1 := 0) (L1 := 0) rfl rfl cg_105 rfl rfl (by decide) (by decide) (Nat.le_of_ble_eq_true rfl) (c_X0_follow ?_)
  refine aw rfl rfl ?_
  refine aw_getf rfl cg_8 rfl ?_
  refine aw rfl rfl ?_
  refine aw_getfE rfl cg_8 rfl (congrArg Value.ref (show _ = p from hr0)) ?_
  refine aw_cv (d1 := 0) (L1 := 0) rfl rfl cg_108 rfl rfl (by decide) (by decide) (Nat.le_of_ble_eq_true rfl) (c_X3_follow ?_)
  have hl := And.intro l1 (And.intro l2 (And.intro l3 (And.intro l4 l5)))
  exact aw_vret rfl rfl (q _ (by
    obtain ⟨l1, l2, l3, l4, l5⟩ := hl
    have hR2 : ∀ s, s < 3 → ¬ (118 + s = 46) := fun s hs => by omega
    refine ⟨?_, ?_, ?_, ?_, fun s hs => ?_, ⟨no, na, lf, ?_⟩, ?_, rfl, ?_, ?_, ?_, ?_⟩
    · show SRl (K1.2.2.1 46) _
      rw [l5]
      show SRl (R 46) _
      exact hR46
    · show K1.1 16 = _
      rw [l3 16 (by omega)]; rfl
    · show K1.1 17 = _
      rw [l3 17 (by omega)]; rfl
    · show K1.1 25 = _
      rw [l3 25 (by omega)]; rfl
    · show K1.2.2.1 (118 + s) 7 = _
      rw [l5]
      match s, hs with
      | 0, _ => rfl
      | 1, _ => rfl
      | 2, _ => rfl
    · unfold LLr at l1 ⊢
      exact l1
    · exact l2
    · show K1.1 0 = _
      rw [l3 0 (by omega)]; rfl
    · show K1.1 1 = _
      rw [l3 1 (by omega)]; rfl
    · show K1.2.1 9 = _
      rw [l4 9 (by omega)]
    · show K1.2.2.2 = _
      rw [l5]))
end C1
section C2
variable {z : Bool} {g : am_H} {T : Sd} {u : Ua} {X : Sd × Ua} {K : Ck} {rf : Nat → Nat}
variable {n : Nat}
theorem c_beginZ {Q : Option Value → am_H → Prop} (hG : GS T) (hr0 : rf 0 = zq z) (q : ∀ K', BGf T K K' → Q none (cz z g T u X K' (rf3 rf (zq z)))) : AC am_P 4 86 129 [.ref 8] (cz z g T u X K rf) Q := by
  cases z
  · exact c_X10_begin (p := 25) (Or.inr ⟨rfl, rfl⟩) hG hr0 q
  · exact c_X10_begin (p := 10) (Or.inl ⟨rfl, rfl⟩) hG hr0 q
theorem c_X4_placeOfFault {Q : Option Value → am_H → Prop} (q : Q (some (.int (K.1 9))) (cz z g T u X K rf)) : AC am_P 0 0 68 [.ref 40] (cz z g T u X K rf) Q := by
  refine AC.of (ls := [_]) rfl ?_
  refine aw rfl rfl ?_
  refine aw_getf rfl zg_40 rfl ?_
  exact aw_iret rfl rfl q
theorem c_X10_read {Q : Option Value → am_H → Prop} (hg : STr g) (hn : n ≤ 2000) (hB : ∀ j, j < n → K.2.1 9 j ≤ 127) (h0 : K.1 0 = nI n) (hr0 : rf 0 = 35 - zq z) (hr1 : rf 1 = zq z) (q0 : ¬ (rdR (tkS (K.2.1 9) n) n).1 = 0 → ∀ K' T' u', KZ K (va_up (va_up K'.1 0 (K.1 0)) 1 (K.1 1), K'.2) → K'.1 0 = nI 0 → K'.1 1 = (rdR (tkS (K.2.1 9) n) n).2 → Q (some (.int (nI (rdR (tkS (K.2.1 9) n) n).1))) (cz z g T' u' X K' (va_up rf 2 (zq z)))) (q1 : (rdR (tkS (K.2.1 9) n) n).1 = 0 → ∀ K1 K' T' u' C', KZ K K1 → CDt T' u' K1 C' (rd (tkS (K.2.1 9) n)).1 True → gD (rd (tkS (K.2.1 9) n)).1 → whB (rd (tkS (K.2.1 9) n)).1 = true → BGf T' (va_up (va_up K1.1 1 (rdR (tkS (K.2.1 9) n) n).2) 0 (nI 0), K1.2) K' → Q (some (.int (nI 0))) (cz z g T' u' X K' (rf3 (va_up (va_up (va_up rf 2 (zq z)) 0 (zq z)) 1 (35 - zq z)) (zq z)))) : AC am_P 9 215 135 [.ref 8] (cz z g T u X K rf) Q := by
  refine AC.of (ls := [_, _, _]) rfl ?_
  refine aw rfl rfl ?_
  refine aw_getf rfl zg_8 rfl ?_
  refine aw rfl rfl ?_
  refine aw_getfE rfl zg_8 rfl (congrArg Value.ref hr1) ?_
  refine aw rfl rfl ?_
  refine aw_getfE rfl zg_8 rfl (congrArg Value.int h0) ?_
  refine aw_cv (d1 := 8) (L1 := 192) rfl rfl zg_40 rfl rfl (by decide) (by decide) (Nat.le_of_ble_eq_true rfl) (c_X4_readText hg hn hB (fun K1 T1 u1 C1 k1 k2 k8 k3 => ?_))
  refine aw_ist (ls' := [_, _, _]) rfl rfl ?_
  refine aw rfl rfl ?_
  refine aw rfl rfl ?_
  refine aw_getf rfl zg_8 rfl ?_
  refine aw_cv (d1 := 0) (L1 := 0) rfl rfl zg_40 rfl rfl (by decide) (by decide) (Nat.le_of_ble_eq_true rfl) (c_X4_placeOfFault ?_)
  refine aw_putfU rfl zg_8 rfl rfl (by decide) zp_8_2 ?_
  refine aw rfl rfl ?_
  refine aw_c (v := nI 0) rfl (by decide) ?_
  refine aw_putfU rfl zg_8 rfl rfl (by decide) zp_8_1 ?_
  refine aw rfl rfl ?_
  refine aw_nen rfl (fun c33 => ?_) (fun c33 => ?_)
  · refine aw rfl rfl ?_
    refine aw_iret rfl rfl (q0 c33 (va_up (va_up K1.1 1 (K1.1 9)) 0 (nI 0), K1.2) T1 u1 ⟨fun m hm => ?_, k2.2.1, k2.2.2.1, k2.2.2.2⟩ rfl (show K1.1 9 = _ from k1))
    show va_up (va_up (va_up (va_up K1.1 1 _) 0 _) 0 _) 1 _ m = _
    by_cases e1 : m = 1
    · rw [e1, vu_at]
    · by_cases e0 : m = 0
      · rw [e0, vu_ot (by decide), vu_at]
      · rw [vu_ot e1, vu_ot e0, vu_ot e0, vu_ot e1]
        exact k2.1 m hm
  · have ok := k3 c33
    refine aw rfl rfl ?_
    refine aw_getfE rfl zg_8 rfl (congrArg Value.ref (show _ = 35 - zq z from hr0)) ?_
    refine aw_ast (ls' := [_, _, _]) rfl rfl ?_
    refine aw rfl rfl ?_
    refine aw rfl rfl ?_
    refine aw_getfE rfl zg_8 rfl (congrArg Value.ref (show _ = zq z from hr1)) ?_
    refine aw_putfU rfl zg_8 rfl rfl (by decide) zp_8_3 ?_
    refine aw rfl rfl ?_
    refine aw rfl rfl ?_
    refine aw_putfU rfl zg_8 rfl rfl (by decide) zp_8_4 ?_
    refine aw rfl rfl ?_
    refine aw_cv (d1 := 4) (L1 := 86) rfl rfl zg_8 rfl rfl (by decide) (by decide) (Nat.le_of_ble_eq_true rfl) (c_beginZ (ok.1.gs ok.2.1 ok.2.2) (show va_up (va_up (va_up rf 2 (zq z)) 0 (zq z)) 1 (35 - zq z) 0 = zq z from rfl) (fun K2 b1 => ?_))
    refine aw rfl rfl ?_
    refine aw_iret rfl rfl ?_
    rw [c33]
    exact q1 c33 K1 K2 T1 u1 C1 k2 ok.1 ok.2.1 ok.2.2 (by rw [← k1]; exact b1)
end C2
