/-! ===== the class's reader: takeUnit, takeOpening, operatorNext ===== -/
/-- what reading a law leaves of a street -/
def TM (T T' : Sd) : Prop := (∀ j, j ≠ 7 → j ≠ 8 → T'.1 j = T.1 j) ∧ (∀ j, j ≠ 8 → T'.2 j = T.2 j)
theorem TM.rf {T : Sd} : TM T T := ⟨fun _ _ _ => rfl, fun _ _ => rfl⟩
theorem TM.tr {T T1 T2 : Sd} (h : TM T T1) (h1 : TM T1 T2) : TM T T2 := ⟨fun n hn hm => (h1.1 n hn hm).trans (h.1 n hn hm), fun n hn => (h1.2 n hn).trans (h.2 n hn)⟩
theorem TC.tm {T T' : Sd} (h : TC T T') : TM T T' := ⟨fun j h7 _ => h.1 j h7, h.2⟩
section C1
variable {z : Bool} {g : am_H} {T : Sd} {u : Ua} {X : Sd × Ua} {K : Ck} {rf : Nat → Nat}
variable {Y : Tk} {s : Ps} {C : List Int32} {l : List Nat}
theorem c_X4_takeUnit {Q : Option Value → am_H → Prop} (hR : RS Y K s) (hf : s.2.1.1 = 0) (hz : rf 2 = zq z) (hL : LA T u C l) {a : Nat} (ha : a < 3) (h6 : K.1 6 = nI a) (h8 : T.1 8 < 8) (q1 : Y.1 s.1 = 2 → ∀ K' T', RS Y K' (go Y s) → KQ K K' → LA T' u (cad C (enc 0 (nI (Y.2.2.1 s.1)))) l → TM T T' → T'.1 8 = T.1 8 → Q none (cz z g T' u X K' rf)) (q2 : 36 ≤ Y.1 s.1 → ∀ K' T', RS Y K' (go Y s) → KQ K K' → LA T' u (cad C (enc 1 (nI (Y.1 s.1 - 36)))) l → TM T T' → T'.1 8 = (if Y.1 s.1 = 42 then tmS (T.1 8) a else T.1 8) → Q none (cz z g T' u X K' rf)) (q0 : ¬ Y.1 s.1 = 2 → ¬ 36 ≤ Y.1 s.1 → ∀ K', RS Y K' (fl Y 1 s) → KQ K K' → Q none (cz z g T u X K' rf)) : AC am_P 1 22 64 [.ref 40] (cz z g T u X K rf) Q := by
  refine AC.of (ls := [_]) rfl ?_
  have ht := (hR.2.2.2.2.1 hf).2.1
  have hk := ht.2.2.1
  refine aw rfl rfl ?_
  refine aw_getf rfl zg_40 rfl ?_
  refine aw_c (v := nI 3) rfl (by decide) ?_
  refine aw_ine rfl (fun c5 => ?_) (fun c5 => ?_)
  · refine aw rfl rfl ?_
    refine aw_getf rfl zg_40 rfl ?_
    refine aw_c (v := nI 2) rfl (by decide) ?_
    refine aw_ine rfl (fun c36 => ?_) (fun c36 => ?_)
    · refine aw rfl rfl ?_
      refine aw_c (v := nI 1) rfl (by decide) ?_
      refine aw_cv (d1 := 0) (L1 := 0) rfl rfl zg_40 rfl rfl (by decide) (by decide) (Nat.le_of_ble_eq_true rfl) (c_X4_fail hR (by decide) (fun K1 hR1 hK1 => ?_))
      exact aw_vret rfl rfl (q0 (fun w => c5 ((tk_int ht).mpr w)) (fun w => c36 ((tk_wd ht).mpr (by omega))) K1 hR1 hK1)
    · have hw := (tk_wd ht).mp c36
      have hnu := tk_num ht hw
      have hwl := wdC_lt (Y.1 s.1 - 20) (by unfold kOK sgK at hk; omega)
      refine aw rfl rfl ?_
      refine aw_getfE rfl zg_40 rfl (congrArg Value.int hnu) ?_
      refine aw_c (v := nI 16) rfl (by decide) ?_
      refine aw_iltn rfl (fun c45 => ?_) (fun c45 => ?_)
      · refine aw rfl rfl ?_
        refine aw_c (v := nI 1) rfl (by decide) ?_
        refine aw_cv (d1 := 0) (L1 := 0) rfl rfl zg_40 rfl rfl (by decide) (by decide) (Nat.le_of_ble_eq_true rfl) (c_X4_fail hR (by decide) (fun K1 hR1 hK1 => ?_))
        exact aw_vret rfl rfl (q0 (fun w => c5 ((tk_int ht).mpr w)) (fun w => by unfold wdC at c45; unfold kOK sgK at hk; (repeat' split at c45) <;> omega) K1 hR1 hK1)
      · refine aw rfl rfl ?_
        refine aw_getfE rfl zg_40 rfl (congrArg Value.int hnu) ?_
        refine aw_c (v := nI 22) rfl (by decide) ?_
        refine aw_igtn rfl (fun c54 => ?_) (fun c54 => ?_)
        · refine aw rfl rfl ?_
          refine aw_c (v := nI 1) rfl (by decide) ?_
          refine aw_cv (d1 := 0) (L1 := 0) rfl rfl zg_40 rfl rfl (by decide) (by decide) (Nat.le_of_ble_eq_true rfl) (c_X4_fail hR (by decide) (fun K1 hR1 hK1 => ?_))
          exact aw_vret rfl rfl (q0 (fun w => c5 ((tk_int ht).mpr w)) (fun w => by unfold wdC at c54; unfold kOK sgK at hk; (repeat' split at c54) <;> omega) K1 hR1 hK1)
        · have h36 : 36 ≤ Y.1 s.1 := by unfold wdC at c45; unfold kOK sgK at hk; (repeat' split at c45) <;> omega
          have ewd : wdC (Y.1 s.1 - 20) = Y.1 s.1 - 20 := by unfold wdC; rw [if_neg (by omega), if_neg (by omega), if_neg (by omega), if_neg (by omega)]
          have hsb : wdC (Y.1 s.1 - 20) - 16 = Y.1 s.1 - 36 := by omega
          refine aw rfl rfl ?_
          refine aw_getfE rfl zg_40 rfl (congrArg Value.ref hz) ?_
          refine aw_getf rfl zs_0 rfl ?_
          refine aw_c (v := nI 1) rfl (by decide) ?_
          refine aw rfl rfl ?_
          refine aw_getfE rfl zg_40 rfl (congrArg Value.int hnu) ?_
          refine aw_c (v := nI 16) rfl (by decide) ?_
          refine aw_subn rfl (by omega) ?_
          refine aw_cv (d1 := 0) (L1 := 0) rfl rfl zs_7 rfl rfl (by decide) (by decide) (Nat.le_of_ble_eq_true rfl) (c_X1_add hL (fun T1 hL1 hT1 => ?_))
          refine aw rfl rfl ?_
          refine aw rfl rfl ?_
          refine aw_getfE rfl zg_40 rfl (congrArg Value.int hnu) ?_
          refine aw_c (v := nI 22) rfl (by decide) ?_
          refine aw_inen rfl (fun c82 => ?_) (fun c82 => ?_)
          · refine aw rfl rfl ?_
            refine aw_cv (d1 := 0) (L1 := 0) rfl rfl zg_40 rfl rfl (by decide) (by decide) (Nat.le_of_ble_eq_true rfl) (c_X4_take hR (fun K1 hR1 hK1 => ?_))
            refine aw rfl rfl ?_
            exact aw_vret rfl rfl (q2 h36 K1 T1 hR1 hK1 (by rw [hsb] at hL1; exact hL1) hT1.tm (by rw [if_neg (by omega), hT1.1 8 (by decide)]))
          · refine aw rfl rfl ?_
            refine aw_getfE rfl zg_40 rfl (congrArg Value.ref hz) ?_
            refine aw_getf rfl zs_0 rfl ?_
            refine aw rfl rfl ?_
            refine aw_getfE rfl zg_40 rfl (congrArg Value.int h6) ?_
            refine aw_cv (d1 := 0) (L1 := 0) rfl rfl zs_7 rfl rfl (by decide) (by decide) (Nat.le_of_ble_eq_true rfl) (c_X1_markTimed ha (by rw [hT1.1 8 (by decide)]; exact h8) ?_)
            refine aw rfl rfl ?_
            refine aw_cv (d1 := 0) (L1 := 0) rfl rfl zg_40 rfl rfl (by decide) (by decide) (Nat.le_of_ble_eq_true rfl) (c_X4_take hR (fun K1 hR1 hK1 => ?_))
            refine aw rfl rfl ?_
            exact aw_vret rfl rfl (q2 h36 K1 _ hR1 hK1 (by rw [hsb] at hL1; exact hL1) ⟨fun j h7 h8 => (vu_ot h8).trans (hT1.1 j h7), hT1.2⟩ (by rw [if_pos (by omega), ← hT1.1 8 (by decide)]; rfl))
  · have h2 := (tk_int ht).mp c5
    obtain ⟨hnu, hv9⟩ := tk_inum ht h2
    refine aw rfl rfl ?_
    refine aw_getfE rfl zg_40 rfl (congrArg Value.ref hz) ?_
    refine aw_getf rfl zs_0 rfl ?_
    refine aw_c (v := nI 0) rfl (by decide) ?_
    refine aw rfl rfl ?_
    refine aw_getfE rfl zg_40 rfl (congrArg Value.int hnu) ?_
    refine aw_cv (d1 := 0) (L1 := 0) rfl rfl zs_7 rfl rfl (by decide) (by decide) (Nat.le_of_ble_eq_true rfl) (c_X1_add hL (fun T1 hL1 hT1 => ?_))
    refine aw rfl rfl ?_
    refine aw rfl rfl ?_
    refine aw_cv (d1 := 0) (L1 := 0) rfl rfl zg_40 rfl rfl (by decide) (by decide) (Nat.le_of_ble_eq_true rfl) (c_X4_take hR (fun K1 hR1 hK1 => ?_))
    refine aw rfl rfl ?_
    exact aw_vret rfl rfl (q1 h2 K1 T1 hR1 hK1 hL1 hT1.tm (hT1.1 8 (by decide)))
theorem c_X4_takeOpening {Q : Option Value → am_H → Prop} (hR : RS Y K s) (hz : rf 2 = zq z) (hL : LA T u C l) {d : Nat} (hd : d < 100) (q1 : d ≤ 6 → ∀ K' u', RS Y K' (go Y s) → KQ K K' → LA T u' C (opush 0 l) → Q none (cz z g T u' X K' rf)) (q0 : ¬ d ≤ 6 → ∀ K', RS Y K' (fl Y 2 s) → KQ K K' → Q none (cz z g T u X K' rf)) : AC am_P 1 21 63 [.ref 40, .int (nI d)] (cz z g T u X K rf) Q := by
  refine AC.of (ls := [_, _]) rfl ?_
  refine aw rfl rfl ?_
  refine aw_c (v := nI 6) rfl (by decide) ?_
  refine aw_ilen rfl (fun c3 => ?_) (fun c3 => ?_)
  · refine aw rfl rfl ?_
    refine aw_getfE rfl zg_40 rfl (congrArg Value.ref hz) ?_
    refine aw_getf rfl zs_0 rfl ?_
    refine aw_c (v := nI 8) rfl (by decide) ?_
    refine aw_cv (d1 := 0) (L1 := 0) rfl rfl zs_7 rfl rfl (by decide) (by decide) (Nat.le_of_ble_eq_true rfl) (c_X1_push (x := 0) hL (by decide) rfl (fun u1 hL1 => ?_))
    refine aw rfl rfl ?_
    refine aw_cv (d1 := 0) (L1 := 0) rfl rfl zg_40 rfl rfl (by decide) (by decide) (Nat.le_of_ble_eq_true rfl) (c_X4_take hR (fun K1 hR1 hK1 => ?_))
    exact aw_vret rfl rfl (q1 c3 K1 u1 hR1 hK1 hL1)
  · refine aw rfl rfl ?_
    refine aw_c (v := nI 2) rfl (by decide) ?_
    refine aw_cv (d1 := 0) (L1 := 0) rfl rfl zg_40 rfl rfl (by decide) (by decide) (Nat.le_of_ble_eq_true rfl) (c_X4_fail hR (by decide) (fun K1 hR1 hK1 => ?_))
    refine aw rfl rfl ?_
    exact aw_vret rfl rfl (q0 c3 K1 hR1 hK1)
theorem c_X4_operatorNext {Q : Option Value → am_H → Prop} (hR : RS Y K s) (hf : s.2.1.1 = 0) (q1 : Y.1 s.1 = 8 ∨ Y.1 s.1 = 9 ∨ Y.1 s.1 = 10 ∨ Y.1 s.1 = 15 → Q (some (.int (nI (opK (Y.1 s.1))))) (cz z g T u X K rf)) (q0 : ¬ (Y.1 s.1 = 8 ∨ Y.1 s.1 = 9 ∨ Y.1 s.1 = 10 ∨ Y.1 s.1 = 15) → Q (some (.int (-1))) (cz z g T u X K rf)) : AC am_P 0 0 62 [.ref 40] (cz z g T u X K rf) Q := by
  refine AC.of (ls := [_]) rfl ?_
  have ht := (hR.2.2.2.2.1 hf).2.1
  refine aw rfl rfl ?_
  refine aw_getf rfl zg_40 rfl ?_
  refine aw_c (v := nI 4) rfl (by decide) ?_
  refine aw_ine rfl (fun c5 => ?_) (fun c5 => ?_)
  · refine aw_c (v := -1) rfl (by decide) ?_
    refine aw_ts (z := -1) (tgt := 64) rfl (by decide) (by decide) ?_
    refine aw_c (v := -1) rfl (by decide) ?_
    exact aw_iret rfl rfl (q0 (fun w => c5 ((tk_sg ht).mpr (by unfold sgK; omega))))
  · have hsg := (tk_sg ht).mp c5
    have hsn := tk_snum ht hsg
    have hcs : Y.1 s.1 = 4 ∨ Y.1 s.1 = 5 ∨ Y.1 s.1 = 6 ∨ Y.1 s.1 = 7 ∨ Y.1 s.1 = 8 ∨ Y.1 s.1 = 9 ∨ Y.1 s.1 = 10 ∨ Y.1 s.1 = 13 ∨ Y.1 s.1 = 15 := by unfold sgK at hsg; omega
    rcases hcs with hk | hk | hk | hk | hk | hk | hk | hk | hk
    · have hn9 : K.1 5 = nI 59 := by rw [hsn, hk]; rfl
      refine aw rfl rfl ?_
      refine aw_getfE rfl zg_40 rfl (congrArg Value.int hn9) ?_
      refine aw rfl rfl ?_
      refine aw_ts (z := 59) (tgt := 64) rfl (by decide) (by decide) ?_
      refine aw_c (v := -1) rfl (by decide) ?_
      exact aw_iret rfl rfl (q0 (by omega))
    · have hn9 : K.1 5 = nI 61 := by rw [hsn, hk]; rfl
      refine aw rfl rfl ?_
      refine aw_getfE rfl zg_40 rfl (congrArg Value.int hn9) ?_
      refine aw rfl rfl ?_
      refine aw_ts (z := 61) (tgt := 64) rfl (by decide) (by decide) ?_
      refine aw_c (v := -1) rfl (by decide) ?_
      exact aw_iret rfl rfl (q0 (by omega))
    · have hn9 : K.1 5 = nI 40 := by rw [hsn, hk]; rfl
      refine aw rfl rfl ?_
      refine aw_getfE rfl zg_40 rfl (congrArg Value.int hn9) ?_
      refine aw rfl rfl ?_
      refine aw_ts (z := 40) (tgt := 64) rfl (by decide) (by decide) ?_
      refine aw_c (v := -1) rfl (by decide) ?_
      exact aw_iret rfl rfl (q0 (by omega))
    · have hn9 : K.1 5 = nI 41 := by rw [hsn, hk]; rfl
      refine aw rfl rfl ?_
      refine aw_getfE rfl zg_40 rfl (congrArg Value.int hn9) ?_
      refine aw rfl rfl ?_
      refine aw_ts (z := 41) (tgt := 64) rfl (by decide) (by decide) ?_
      refine aw_c (v := -1) rfl (by decide) ?_
      exact aw_iret rfl rfl (q0 (by omega))
    · have hn9 : K.1 5 = nI 43 := by rw [hsn, hk]; rfl
      refine aw rfl rfl ?_
      refine aw_getfE rfl zg_40 rfl (congrArg Value.int hn9) ?_
      refine aw rfl rfl ?_
      refine aw_ts (z := 43) (tgt := 56) rfl (by decide) (by decide) ?_
      refine aw_c (v := nI 2) rfl (by decide) ?_
      exact aw_iret rfl rfl (by have q := q1 (by omega); rw [hk] at q; exact q)
    · have hn9 : K.1 5 = nI 45 := by rw [hsn, hk]; rfl
      refine aw rfl rfl ?_
      refine aw_getfE rfl zg_40 rfl (congrArg Value.int hn9) ?_
      refine aw rfl rfl ?_
      refine aw_ts (z := 45) (tgt := 58) rfl (by decide) (by decide) ?_
      refine aw_c (v := nI 3) rfl (by decide) ?_
      exact aw_iret rfl rfl (by have q := q1 (by omega); rw [hk] at q; exact q)
    · have hn9 : K.1 5 = nI 42 := by rw [hsn, hk]; rfl
      refine aw rfl rfl ?_
      refine aw_getfE rfl zg_40 rfl (congrArg Value.int hn9) ?_
      refine aw rfl rfl ?_
      refine aw_ts (z := 42) (tgt := 60) rfl (by decide) (by decide) ?_
      refine aw_c (v := nI 4) rfl (by decide) ?_
      exact aw_iret rfl rfl (by have q := q1 (by omega); rw [hk] at q; exact q)
    · have hn9 : K.1 5 = nI 60 := by rw [hsn, hk]; rfl
      refine aw rfl rfl ?_
      refine aw_getfE rfl zg_40 rfl (congrArg Value.int hn9) ?_
      refine aw rfl rfl ?_
      refine aw_ts (z := 60) (tgt := 64) rfl (by decide) (by decide) ?_
      refine aw_c (v := -1) rfl (by decide) ?_
      exact aw_iret rfl rfl (q0 (by omega))
    · have hn9 : K.1 5 = nI 47 := by rw [hsn, hk]; rfl
      refine aw rfl rfl ?_
      refine aw_getfE rfl zg_40 rfl (congrArg Value.int hn9) ?_
      refine aw rfl rfl ?_
      refine aw_ts (z := 47) (tgt := 62) rfl (by decide) (by decide) ?_
      refine aw_c (v := nI 5) rfl (by decide) ?_
      exact aw_iret rfl rfl (by have q := q1 (by omega); rw [hk] at q; exact q)
theorem c_opAny {Q : Option Value → am_H → Prop} (hR : RS Y K s) (hf : s.2.1.1 = 0) (q : ∀ x, Q (some (.int x)) (cz z g T u X K rf)) : AC am_P 0 0 62 [.ref 40] (cz z g T u X K rf) Q := c_X4_operatorNext hR hf (fun _ => q _) (fun _ => q _)
end C1
