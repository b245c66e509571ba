/-! ===== the class's laws while they are read: addOperator, start, aim, markTimed, clear; a street cleared ===== -/
def tmC (n l : Nat) : Nat := if n / 2 ^ l % 2 = 1 then n - 2 ^ l else n
def tmS (n l : Nat) : Nat := if n / 2 ^ l % 2 = 1 then n else n + 2 ^ l
theorem tm_c : ∀ n, n < 8 → ∀ l, l < 3 → nI n &&& ((nI 1 <<< (nI l &&& 31)) ^^^ -1) = nI (tmC n l) := by decide +kernel
theorem tm_s : ∀ n, n < 8 → ∀ l, l < 3 → nI n ||| (nI 1 <<< (nI l &&& 31)) = nI (tmS n l) := by decide +kernel
theorem tmC_lt : ∀ n, n < 8 → ∀ l, l < 3 → tmC n l < 8 := by decide
theorem tmS_lt : ∀ n, n < 8 → ∀ l, l < 3 → tmS n l < 8 := by decide
theorem pp_t {x : Nat} {st : Bool} {r : List Nat} (h : ppB st x = true) : List.takeWhile (ppB st) (x :: r) = x :: r.takeWhile (ppB st) ∧ List.dropWhile (ppB st) (x :: r) = r.dropWhile (ppB st) := by simp [List.takeWhile, List.dropWhile, h]
theorem pp_f {x : Nat} {st : Bool} {r : List Nat} (h : ppB st x = false) : List.takeWhile (ppB st) (x :: r) = [] ∧ List.dropWhile (ppB st) (x :: r) = x :: r := by simp [List.takeWhile, List.dropWhile, h]
theorem opC_n {x : Nat} (h : ¬ opC x = 8) : opC x = x ∧ ¬ x = 0 := by unfold opC at *; split at h <;> simp_all
/-- a street as it is ahead of a text -/
def CLR (T : Sd) : Prop := T.1 0 = 0 ∧ T.1 1 = 0 ∧ T.1 2 = 1 ∧ T.1 3 = 0 ∧ T.1 4 = 0 ∧ T.1 5 = 5 ∧ T.1 6 = 0 ∧ T.1 7 = 0 ∧ T.1 8 = 0 ∧ (∀ i, i < 32 → T.2 0 i = -1) ∧ T.2 2 24 = nI 6 ∧ (∀ i, i < 3 → T.2 6 i = nI 0) ∧ (∀ i, i < 3 → T.2 7 i = nI 0) ∧ (∀ i, i < 3 → T.2 9 i = -1)
section C1
variable {z : Bool} {g : am_H} {T : Sd} {u : Ua} {X : Sd × Ua} {K : Ck} {rf : Nat → Nat}
variable {C : List Int32} {l : List Nat}
theorem l_addOp {Q : Option Value → am_H → Prop} {o : Nat} (ho : 2 ≤ o ∧ o ≤ 5) : ∀ (l : List Nat) (i : Nat) (T : Sd) (u : Ua) (C : List Int32) (_ : LA T u C l) (_ : i + l.length ≤ 32) (_ : ∀ T' u', LA T' u' (cads C (l.takeWhile (ppB (decide (4 ≤ o))))) (opush o (l.dropWhile (ppB (decide (4 ≤ o))))) → TC T T' → Q none (cz z g T' u' X K rf)), AW am_P 1 22 20 2 [some (.ref (zq z + 7)), some (.int (nI o)), some (.int (nI i))] [] (cz z g T u X K rf) Q := by
  have hend : ∀ (l : List Nat) (i : Nat) (T : Sd) (u : Ua) (C : List Int32) (_ : LA T u C l) (_ : ∀ T' u', LA T' u' C (opush o l) → TC T T' → Q none (cz z g T' u' X K rf)), AW am_P 1 22 20 61 [some (.ref (zq z + 7)), some (.int (nI o)), some (.int (nI i))] [] (cz z g T u X K rf) Q := by
    intro l i T u C hL q
    refine aw rfl rfl ?_
    refine aw rfl rfl ?_
    refine aw_cv (d1 := 0) (L1 := 0) rfl rfl zs_7 rfl rfl (by decide) (by decide) (Nat.le_of_ble_eq_true rfl) (c_X1_push hL (by omega) (if_neg (by omega)) (fun u1 hL1 => ?_))
    exact aw_vret rfl rfl (q T u1 hL1 TC.rf)
  intro l
  induction l with
  | nil =>
    intro i T u C hL hi q
    refine aw rfl rfl ?_
    refine aw_c (v := nI 32) rfl (by decide) ?_
    refine aw_igen rfl (fun c5 => ?_) (fun c5 => ?_)
    · exact hend [] i T u C hL q
    · refine aw rfl rfl ?_
      refine aw_cv (d1 := 0) (L1 := 0) rfl rfl zs_7 rfl rfl (by decide) (by decide) (Nat.le_of_ble_eq_true rfl) (c_X1_lastWaiting hL ?_)
      · refine aw_c (v := nI 8) rfl (by decide) ?_
        refine aw_ieq rfl (fun _ => ?_) (fun c => absurd (by decide) c)
        exact hend [] i T u C hL q
  | cons x r ih =>
    intro i T u C hL hi q
    have hlen : (x :: r).length = r.length + 1 := rfl
    rw [hlen] at hi
    have hL0 := hL
    obtain ⟨h7, hC, hst, hu, hl, hw⟩ := hL
    rw [hlen] at hu hl
    have hox : opC ((x :: r).headD 0) < 9 := opC_lt hw.1.2
    have hoe : opC ((x :: r).headD 0) = opC x := rfl
    refine aw rfl rfl ?_
    refine aw_c (v := nI 32) rfl (by decide) ?_
    refine aw_igen rfl (fun c5 => by omega) (fun c5 => ?_)
    refine aw rfl rfl ?_
    refine aw_cv (d1 := 0) (L1 := 0) rfl rfl zs_7 rfl rfl (by decide) (by decide) (Nat.le_of_ble_eq_true rfl) (c_X1_lastWaiting hL0 ?_)
    refine aw_c (v := nI 8) rfl (by decide) ?_
    refine aw_ieqn rfl (fun c14 => ?_) (fun c14 => ?_)
    · have e1 : ppB (decide (4 ≤ o)) x = false := by have e0 := (opC_8 hw.1.2).mp c14; subst e0; rfl
      rw [(pp_f e1).1, (pp_f e1).2] at q
      exact hend (x :: r) i T u C hL0 q
    · refine aw rfl rfl ?_
      refine aw_cv (d1 := 0) (L1 := 0) rfl rfl zs_7 rfl rfl (by decide) (by decide) (Nat.le_of_ble_eq_true rfl) (c_X1_lastWaiting hL0 ?_)
      refine aw_c (v := nI 4) rfl (by decide) ?_
      refine aw_igen rfl (fun c22 => ?_) (fun c22 => ?_)
      · refine aw rfl rfl ?_
        refine aw rfl rfl ?_
        refine aw_getfE rfl zs_7 rfl (congrArg Value.int hu) ?_
        refine aw_c (v := nI 1) rfl (by decide) ?_
        refine aw_subn rfl (by omega) ?_
        refine aw_putfU rfl zs_7 rfl rfl zq_8 zt_7_5 ?_
        refine aw rfl rfl ?_
        refine aw rfl rfl ?_
        refine aw_getf rfl zs_7 rfl ?_
        refine aw rfl rfl ?_
        refine aw_getfE rfl zs_7 rfl (congrArg Value.int (show nI (r.length + 1 - 1) = nI r.length from rfl)) ?_
        refine aw_ialdE rfl zs_10 rfl (by omega) (by decide) hw.1.1 ?_
        refine aw_c (v := nI 0) rfl (by decide) ?_
        refine aw_cv (d1 := 0) (L1 := 0) rfl rfl zs_7 rfl rfl (by decide) (by decide) (Nat.le_of_ble_eq_true rfl) (c_X1_add (hL0.w (l' := r) rfl (by omega) hw.2) (fun T1 hL1 hT1 => ?_))
        refine aw rfl rfl ?_
        refine aw_incn (c := 1) (ls' := [_, _, _]) rfl rfl (by decide) rfl ?_
        refine aw rfl rfl ?_
        have e0 : ¬ x = 0 := fun e => c14 (by subst e; rfl)
        have e2 : opC x = x := by unfold opC; exact if_neg e0
        have e1 : ppB (decide (4 ≤ o)) x = true := by unfold ppB; simp [e0]; omega
        rw [(pp_t e1).1, (pp_t e1).2] at q
        rw [e2] at hL1
        exact ih (i + 1) T1 _ _ hL1 (by omega) (fun T2 u2 h2 t2 => q T2 u2 h2 (hT1.tr t2))
      · refine aw rfl rfl ?_
        refine aw_c (v := nI 4) rfl (by decide) ?_
        refine aw_igen rfl (fun c27 => ?_) (fun c27 => ?_)
        · have e1 : ppB (decide (4 ≤ o)) x = false := by have e2 := opC_n (show ¬ opC x = 8 from c14); unfold ppB; simp; omega
          rw [(pp_f e1).1, (pp_f e1).2] at q
          exact hend (x :: r) i T u C hL0 q
        · refine aw rfl rfl ?_
          refine aw rfl rfl ?_
          refine aw_getfE rfl zs_7 rfl (congrArg Value.int hu) ?_
          refine aw_c (v := nI 1) rfl (by decide) ?_
          refine aw_subn rfl (by omega) ?_
          refine aw_putfU rfl zs_7 rfl rfl zq_8 zt_7_5 ?_
          refine aw rfl rfl ?_
          refine aw rfl rfl ?_
          refine aw_getf rfl zs_7 rfl ?_
          refine aw rfl rfl ?_
          refine aw_getfE rfl zs_7 rfl (congrArg Value.int (show nI (r.length + 1 - 1) = nI r.length from rfl)) ?_
          refine aw_ialdE rfl zs_10 rfl (by omega) (by decide) hw.1.1 ?_
          refine aw_c (v := nI 0) rfl (by decide) ?_
          refine aw_cv (d1 := 0) (L1 := 0) rfl rfl zs_7 rfl rfl (by decide) (by decide) (Nat.le_of_ble_eq_true rfl) (c_X1_add (hL0.w (l' := r) rfl (by omega) hw.2) (fun T1 hL1 hT1 => ?_))
          refine aw rfl rfl ?_
          refine aw_incn (c := 1) (ls' := [_, _, _]) rfl rfl (by decide) rfl ?_
          refine aw rfl rfl ?_
          have e0 : ¬ x = 0 := fun e => c14 (by subst e; rfl)
          have e2 : opC x = x := by unfold opC; exact if_neg e0
          have e1 : ppB (decide (4 ≤ o)) x = true := by unfold ppB; simp [e0]; omega
          rw [(pp_t e1).1, (pp_t e1).2] at q
          rw [e2] at hL1
          exact ih (i + 1) T1 _ _ hL1 (by omega) (fun T2 u2 h2 t2 => q T2 u2 h2 (hT1.tr t2))
theorem c_X1_addOperator {Q : Option Value → am_H → Prop} {o : Nat} (ho : 2 ≤ o ∧ o ≤ 5) (hL : LA T u C l) (q : ∀ T' u', LA T' u' (cads C (l.takeWhile (ppB (decide (4 ≤ o))))) (opush o (l.dropWhile (ppB (decide (4 ≤ o))))) → TC T T' → Q none (cz z g T' u' X K rf)) : AC am_P 1 22 20 [.ref (zq z + 7), .int (nI o)] (cz z g T u X K rf) Q := by
  refine AC.of (ls := [_, _, _]) rfl ?_
  refine aw_c (v := nI 0) rfl (by decide) ?_
  refine aw_ist (ls' := [_, _, _]) rfl rfl ?_
  exact l_addOp ho l 0 T u C hL (by have := hL.2.2.2.2.1; omega) q
theorem c_X1_start {Q : Option Value → am_H → Prop} {a : Nat} (ha : a < 3) (h8 : T.1 8 < 8) (q : Q none (cz z g (va_up T.1 8 (tmC (T.1 8) a), va_up T.2 9 (upd (T.2 9) a (nI (T.1 7)))) (nI 0, u.2) X K rf)) : AC am_P 0 0 14 [.ref (zq z + 7), .int (nI a)] (cz z g T u X K rf) Q := by
  refine AC.of (ls := [_, _]) rfl ?_
  refine aw rfl rfl ?_
  refine aw_ltn rfl ?_
  refine aw rfl rfl ?_
  refine aw rfl rfl ?_
  refine aw_getf rfl zs_7 rfl ?_
  refine aw_alen rfl zs_9 rfl ?_
  refine aw_igen rfl (fun c10 => by omega) (fun c10 => ?_)
  refine aw rfl rfl ?_
  refine aw_getf rfl zs_7 rfl ?_
  refine aw rfl rfl ?_
  refine aw rfl rfl ?_
  refine aw_getf rfl zs_7 rfl ?_
  refine aw_iastU rfl zs_9 rfl (by omega) (by decide) zq_8 zv_9 ?_
  refine aw rfl rfl ?_
  refine aw rfl rfl ?_
  refine aw_getf rfl zs_7 rfl ?_
  refine aw_c (v := nI 1) rfl (by decide) ?_
  refine aw rfl rfl ?_
  refine aw rfl rfl ?_
  refine aw_c (v := -1) rfl (by decide) ?_
  refine aw rfl rfl ?_
  refine aw rfl rfl ?_
  rw [tm_c (T.1 8) h8 a ha]
  refine aw_putfU rfl zs_7 rfl rfl zq_8 zt_7_3 ?_
  refine aw rfl rfl ?_
  refine aw_c (v := nI 0) rfl (by decide) ?_
  refine aw_putfU rfl zs_7 rfl rfl zq_8 zt_7_5 ?_
  exact aw_vret rfl rfl q
theorem c_X1_markTimed {Q : Option Value → am_H → Prop} {a : Nat} (ha : a < 3) (h8 : T.1 8 < 8) (q : Q none (cz z g (va_up T.1 8 (tmS (T.1 8) a), T.2) u X K rf)) : AC am_P 0 0 17 [.ref (zq z + 7), .int (nI a)] (cz z g T u X K rf) Q := by
  refine AC.of (ls := [_, _]) rfl ?_
  refine aw rfl rfl ?_
  refine aw rfl rfl ?_
  refine aw_getf rfl zs_7 rfl ?_
  refine aw_c (v := nI 1) rfl (by decide) ?_
  refine aw rfl rfl ?_
  refine aw rfl rfl ?_
  refine aw rfl rfl ?_
  rw [tm_s (T.1 8) h8 a ha]
  refine aw_putfU rfl zs_7 rfl rfl zq_8 zt_7_3 ?_
  exact aw_vret rfl rfl q
theorem c_X1_aim {Q : Option Value → am_H → Prop} (hL : LA T u C l) {t : Nat} (ht9 : t < 1000) (q : ∀ T', LA T' u (C.set t (enc 6 (nI C.length))) l → TC T T' → Q none (cz z g T' u X K rf)) : AC am_P 0 0 21 [.ref (zq z + 7), .int (nI t)] (cz z g T u X K rf) Q := by
  refine AC.of (ls := [_, _]) rfl ?_
  have hL0 := hL
  obtain ⟨h7, hC, hst, hu, hl, hw⟩ := hL
  refine aw rfl rfl ?_
  refine aw_ltn rfl ?_
  refine aw rfl rfl ?_
  refine aw rfl rfl ?_
  refine aw_getf rfl zs_7 rfl ?_
  refine aw_igen rfl (fun c9 => ?_) (fun c9 => ?_)
  · exact aw_vret rfl rfl (q T (by rw [List.set_eq_of_length_le (by omega)]; exact hL0) TC.rf)
  · refine aw rfl rfl ?_
    refine aw_getf rfl zs_7 rfl ?_
    refine aw rfl rfl ?_
    refine aw rfl rfl ?_
    refine aw_getf rfl zs_7 rfl ?_
    refine aw_c (v := nI 3) rfl (by decide) ?_
    refine aw rfl rfl ?_
    refine aw_c (v := nI 6) rfl (by decide) ?_
    refine aw rfl rfl ?_
    refine aw_iastU rfl zs_8 rfl (by omega) (by decide) zq_8 zv_8 ?_
    exact aw_vret rfl rfl (q _ (by
    refine ⟨by rw [List.length_set]; exact h7, by rw [List.length_set]; exact hC, fun i hi => ?_, hu, hl, hw⟩
    rw [List.length_set] at hi
    show upd (T.2 8) t _ i = _
    by_cases ei : i = t
    · subst ei
      rw [upd_at, List.getD, List.getElem?_set_self (by omega), h7]
      rfl
    · rw [upd_ne ei, hst i hi, List.getD, List.getD, List.getElem?_set_ne (by omega)]) ⟨fun _ _ => rfl, fun j hj => vu_ot hj⟩)
theorem c_X1_clear {Q : Option Value → am_H → Prop} (q : ∀ y, (∀ i, i < 3 → y i = -1) → Q none (cz z g (va_up (va_up T.1 7 0) 8 0, va_up T.2 9 y) u X K rf)) : AC am_P 1 23 13 [.ref (zq z + 7)] (cz z g T u X K rf) Q := by
  refine AC.of (ls := [_]) rfl ?_
  refine aw rfl rfl ?_
  refine aw_c (v := nI 0) rfl (by decide) ?_
  refine aw_putfU rfl zs_7 rfl rfl zq_8 zt_7_1 ?_
  refine aw rfl rfl ?_
  refine aw_c (v := nI 0) rfl (by decide) ?_
  refine aw_putfU rfl zs_7 rfl rfl zq_8 zt_7_3 ?_
  refine aw rfl rfl ?_
  refine aw_getf rfl zs_7 rfl ?_
  refine aw_c (v := -1) rfl (by decide) ?_
  refine aw_cs (d1 := 0) (L1 := 0) rfl rfl (by decide) (by decide) (Nat.le_of_ble_eq_true rfl) (c_X13_fill zs_9 (by decide) zq_8 (fun y hy => ?_))
  rw [zv_9]
  exact aw_vret rfl rfl (q y hy)
theorem c_X7_clear {Q : Option Value → am_H → Prop} (q : ∀ T', CLR T' → Q none (cz z g T' u X K rf)) : AC am_P 2 43 86 [.ref (zq z)] (cz z g T u X K rf) Q := by
  refine AC.of (ls := [_]) rfl ?_
  refine aw rfl rfl ?_
  refine aw_c (v := nI 0) rfl (by decide) ?_
  refine aw_putfU rfl zs_0 rfl rfl zq_88 zt_0_0 ?_
  refine aw rfl rfl ?_
  refine aw_c (v := nI 0) rfl (by decide) ?_
  refine aw_putfU rfl zs_0 rfl rfl zq_88 zt_0_1 ?_
  refine aw rfl rfl ?_
  refine aw_getf rfl zs_0 rfl ?_
  refine aw_c (v := -1) rfl (by decide) ?_
  refine aw_cs (d1 := 0) (L1 := 0) rfl rfl (by decide) (by decide) (Nat.le_of_ble_eq_true rfl) (c_X13_fill zs_1 (by decide) zq_8 (fun y0 hy0 => ?_))
  rw [zv_1]
  refine aw rfl rfl ?_
  refine aw_c (v := nI 1) rfl (by decide) ?_
  refine aw_putfU rfl zs_0 rfl rfl zq_88 zt_0_3 ?_
  refine aw rfl rfl ?_
  refine aw_c (v := nI 0) rfl (by decide) ?_
  refine aw_putfU rfl zs_0 rfl rfl zq_88 zt_0_4 ?_
  refine aw rfl rfl ?_
  refine aw_getf rfl zs_0 rfl ?_
  refine aw_c (v := nI 24) rfl (by decide) ?_
  refine aw_c (v := nI 6) rfl (by decide) ?_
  refine aw_iastU rfl zs_3 rfl (by omega) (by decide) zq_8 zv_3 ?_
  refine aw rfl rfl ?_
  refine aw_getf rfl zs_0 rfl ?_
  refine aw_cv (d1 := 1) (L1 := 23) rfl rfl zs_7 rfl rfl (by decide) (by decide) (Nat.le_of_ble_eq_true rfl) (c_X1_clear (fun y2 hy2 => ?_))
  refine aw rfl rfl ?_
  refine aw_getf rfl zs_0 rfl ?_
  refine aw_c (v := nI 0) rfl (by decide) ?_
  refine aw_cs (d1 := 0) (L1 := 0) rfl rfl (by decide) (by decide) (Nat.le_of_ble_eq_true rfl) (c_X13_fill zs_13 (by decide) zq_8 (fun y3 hy3 => ?_))
  rw [zv_13]
  refine aw rfl rfl ?_
  refine aw_getf rfl zs_0 rfl ?_
  refine aw_c (v := nI 0) rfl (by decide) ?_
  refine aw_cs (d1 := 0) (L1 := 0) rfl rfl (by decide) (by decide) (Nat.le_of_ble_eq_true rfl) (c_X13_fill zs_14 (by decide) zq_8 (fun y4 hy4 => ?_))
  rw [zv_14]
  refine aw rfl rfl ?_
  refine aw_c (v := nI 0) rfl (by decide) ?_
  refine aw_putfU rfl zs_0 rfl rfl zq_88 zt_0_13 ?_
  refine aw rfl rfl ?_
  refine aw_c (v := nI 5) rfl (by decide) ?_
  refine aw_putfU rfl zs_0 rfl rfl zq_88 zt_0_14 ?_
  refine aw rfl rfl ?_
  refine aw_c (v := nI 0) rfl (by decide) ?_
  refine aw_putfU rfl zs_0 rfl rfl zq_88 zt_0_15 ?_
  exact aw_vret rfl rfl (q _ (by
    refine ⟨rfl, rfl, rfl, rfl, rfl, rfl, rfl, rfl, rfl, hy0, rfl, hy3, hy4, hy2⟩))
theorem c_X7_setSort {Q : Option Value → am_H → Prop} {a e : Nat} {x : Int32} (ha : a < 8) (he : e < 4) (q : Q none (cz z g (T.1, va_up T.2 0 (upd (T.2 0) (e * 8 + a) x)) u X K rf)) : AC am_P 0 0 91 [.ref (zq z), .int (nI a), .int (nI e), .int x] (cz z g T u X K rf) Q := by
  refine AC.of (ls := [_, _, _, _]) rfl ?_
  refine aw rfl rfl ?_
  refine aw_ltn rfl ?_
  refine aw rfl rfl ?_
  refine aw_c (v := nI 8) rfl (by decide) ?_
  refine aw_igen rfl (fun c7 => by omega) (fun c7 => ?_)
  refine aw rfl rfl ?_
  refine aw_ltn rfl ?_
  refine aw rfl rfl ?_
  refine aw_c (v := nI 4) rfl (by decide) ?_
  refine aw_igen rfl (fun c16 => by omega) (fun c16 => ?_)
  refine aw rfl rfl ?_
  refine aw_getf rfl zs_0 rfl ?_
  refine aw rfl rfl ?_
  refine aw_c (v := nI 8) rfl (by decide) ?_
  refine aw_muln rfl ?_
  refine aw rfl rfl ?_
  refine aw_addn rfl ?_
  refine aw rfl rfl ?_
  refine aw_iastU rfl zs_1 rfl (by omega) (by decide) zq_8 zv_1 ?_
  exact aw_vret rfl rfl q
end C1
