/-! ===== the class's reader: fail, failLate, isWord, isSign, takeWord, takeSign, takeInt ===== -/
theorem iS_n {Y : Tk} {lo hi : Nat} {s : Ps} (hf : s.2.1.1 = 0) (h : ¬ Y.1 s.1 = 2) : iS Y lo hi s = fl Y 1 s := by unfold iS; rw [if_pos ⟨hf, h⟩]
section C1
variable {z : Bool} {g : am_H} {T : Sd} {u : Ua} {X : Sd × Ua} {K : Ck} {rf : Nat → Nat}
variable {Y : Tk} {s : Ps}
theorem c_X4_fail {Q : Option Value → am_H → Prop} (hR : RS Y K s) {c : Nat} (hc : 1 ≤ c ∧ c < 8) (q : ∀ K', RS Y K' (fl Y c s) → KQ K K' → Q none (cz z g T u X K' rf)) : AC am_P 0 0 47 [.ref 40, .int (nI c)] (cz z g T u X K rf) Q := by
  refine AC.of (ls := [_, _]) rfl ?_
  have hR0 := hR
  obtain ⟨hA, ht, hf8, h8, hok, hfl⟩ := hR
  refine aw rfl rfl ?_
  refine aw_getfE rfl zg_40 rfl (congrArg Value.int h8) ?_
  refine aw_nen rfl (fun c4 => ?_) (fun c4 => ?_)
  · exact aw_vret rfl rfl (q _ (by rw [fl_f c4]; exact hR0) KQ.rf)
  · obtain ⟨h2, htk, hl8, h10, h11⟩ := hok c4
    refine aw rfl rfl ?_
    refine aw rfl rfl ?_
    refine aw_putfU rfl zg_40 rfl rfl (by decide) zp_40_8 ?_
    refine aw rfl rfl ?_
    refine aw rfl rfl ?_
    refine aw_getf rfl zg_40 rfl ?_
    refine aw_putfU rfl zg_40 rfl rfl (by decide) zp_40_9 ?_
    exact aw_vret rfl rfl (q _ (by
    have e : fl Y c s = (s.1, (c, Y.2.1 s.1), s.2.2) := by unfold fl; rw [if_pos c4]
    rw [e]
    refine ⟨hA, ht, hc.2, rfl, fun w => absurd w (by show ¬ c = 0; omega), fun _ => ⟨?_, htk.2.1⟩⟩
    show K.1 4 = _
    exact htk.1) ⟨fun n hn => by (have e1 : ¬ n = 9 := by omega); (have e2 : ¬ n = 8 := by omega); simp only [va_up, if_neg e1, if_neg e2], rfl⟩)
theorem c_failLate {Q : Option Value → am_H → Prop} (hR : RS Y K s) (hf : s.2.1.1 = 0) {c p : Nat} (hc : 1 ≤ c ∧ c < 8) (hp : p ≤ 2000) (q : ∀ K', RS Y K' (wr c p s) → KQ K K' → Q none (cz z g T u X K' rf)) : AC am_P 0 0 49 [.ref 40, .int (nI c), .int (nI p)] (cz z g T u X K rf) Q := by
  refine AC.of (ls := [_, _, _]) rfl ?_
  have hR0 := hR
  obtain ⟨hA, ht, hf8, h8, hok, hfl⟩ := hR
  obtain ⟨h2, htk, hl8, h10, h11⟩ := hok hf
  refine aw rfl rfl ?_
  refine aw_getfE rfl zg_40 rfl (congrArg Value.int h10) ?_
  refine aw_eqn rfl (fun c4 => ?_) (fun c4 => ?_)
  · refine aw rfl rfl ?_
    refine aw rfl rfl ?_
    refine aw_putfU rfl zg_40 rfl rfl (by decide) zp_40_10 ?_
    refine aw rfl rfl ?_
    refine aw rfl rfl ?_
    refine aw_putfU rfl zg_40 rfl rfl (by decide) zp_40_11 ?_
    exact aw_vret rfl rfl (q _ (by
    have e : wr c p s = (s.1, s.2.1, (c, p)) := by unfold wr; rw [if_pos ⟨hf, by omega⟩]
    rw [e]
    exact ⟨hA, ht, hf8, h8, fun _ => ⟨h2, htk, hc.2, rfl, fun _ => ⟨rfl, hp⟩, h11.2⟩, fun w => absurd hf w⟩) ⟨fun n hn => by (have e1 : ¬ n = 10 := by omega); (have e2 : ¬ n = 11 := by omega); simp only [va_up, if_neg e1, if_neg e2], rfl⟩)
  · have hlp := (h11.1 c4).2
    refine aw rfl rfl ?_
    refine aw rfl rfl ?_
    refine aw_getfE rfl zg_40 rfl (congrArg Value.int (h11.1 c4).1) ?_
    refine aw_iltn rfl (fun c12 => ?_) (fun c12 => ?_)
    · refine aw rfl rfl ?_
      refine aw rfl rfl ?_
      refine aw_putfU rfl zg_40 rfl rfl (by decide) zp_40_10 ?_
      refine aw rfl rfl ?_
      refine aw rfl rfl ?_
      refine aw_putfU rfl zg_40 rfl rfl (by decide) zp_40_11 ?_
      exact aw_vret rfl rfl (q _ (by
    have e : wr c p s = (s.1, s.2.1, (c, p)) := by unfold wr; rw [if_pos ⟨hf, by omega⟩]
    rw [e]
    exact ⟨hA, ht, hf8, h8, fun _ => ⟨h2, htk, hc.2, rfl, fun _ => ⟨rfl, hp⟩, h11.2⟩, fun w => absurd hf w⟩) ⟨fun n hn => by (have e1 : ¬ n = 10 := by omega); (have e2 : ¬ n = 11 := by omega); simp only [va_up, if_neg e1, if_neg e2], rfl⟩)
    · refine aw rfl rfl ?_
      refine aw rfl rfl ?_
      refine aw_getfE rfl zg_40 rfl (congrArg Value.int (h11.1 c4).1) ?_
      refine aw_inen rfl (fun c20 => ?_) (fun c20 => ?_)
      · exact aw_vret rfl rfl (q _ (by
    have e : wr c p s = s := by unfold wr; rw [if_neg (by omega)]
    rw [e]
    exact hR0) KQ.rf)
      · refine aw rfl rfl ?_
        refine aw rfl rfl ?_
        refine aw_getfE rfl zg_40 rfl (congrArg Value.int h10) ?_
        refine aw_igen rfl (fun c28 => ?_) (fun c28 => ?_)
        · exact aw_vret rfl rfl (q _ (by
    have e : wr c p s = s := by unfold wr; rw [if_neg (by omega)]
    rw [e]
    exact hR0) KQ.rf)
        · refine aw rfl rfl ?_
          refine aw rfl rfl ?_
          refine aw_putfU rfl zg_40 rfl rfl (by decide) zp_40_10 ?_
          refine aw rfl rfl ?_
          refine aw rfl rfl ?_
          refine aw_putfU rfl zg_40 rfl rfl (by decide) zp_40_11 ?_
          exact aw_vret rfl rfl (q _ (by
    have e : wr c p s = (s.1, s.2.1, (c, p)) := by unfold wr; rw [if_pos ⟨hf, by omega⟩]
    rw [e]
    exact ⟨hA, ht, hf8, h8, fun _ => ⟨h2, htk, hc.2, rfl, fun _ => ⟨rfl, hp⟩, h11.2⟩, fun w => absurd hf w⟩) ⟨fun n hn => by (have e1 : ¬ n = 10 := by omega); (have e2 : ¬ n = 11 := by omega); simp only [va_up, if_neg e1, if_neg e2], rfl⟩)
theorem c_failLateF {Q : Option Value → am_H → Prop} (hR : RS Y K s) (hf : ¬ s.2.1.1 = 0) {c p : Int32} (q : ∀ K', RS Y K' (s) → KQ K K' → Q none (cz z g T u X K' rf)) : AC am_P 0 0 49 [.ref 40, .int c, .int p] (cz z g T u X K rf) Q := by
  refine AC.of (ls := [_, _, _]) rfl ?_
  refine aw rfl rfl ?_
  refine aw_getf rfl zg_40 rfl ?_
  refine aw_eq rfl (fun c4 => ?_) (fun c4 => ?_)
  · refine aw rfl rfl ?_
    refine aw rfl rfl ?_
    refine aw_putfU rfl zg_40 rfl rfl (by decide) zp_40_10 ?_
    refine aw rfl rfl ?_
    refine aw rfl rfl ?_
    refine aw_putfU rfl zg_40 rfl rfl (by decide) zp_40_11 ?_
    exact aw_vret rfl rfl (q _ (hR.flt hf rfl rfl rfl) ⟨fun n hn => by (have e1 : ¬ n = 10 := by omega); (have e2 : ¬ n = 11 := by omega); simp only [va_up, if_neg e1, if_neg e2], rfl⟩)
  · refine aw rfl rfl ?_
    refine aw rfl rfl ?_
    refine aw_getf rfl zg_40 rfl ?_
    refine aw_ilt rfl (fun c12 => ?_) (fun c12 => ?_)
    · refine aw rfl rfl ?_
      refine aw rfl rfl ?_
      refine aw_putfU rfl zg_40 rfl rfl (by decide) zp_40_10 ?_
      refine aw rfl rfl ?_
      refine aw rfl rfl ?_
      refine aw_putfU rfl zg_40 rfl rfl (by decide) zp_40_11 ?_
      exact aw_vret rfl rfl (q _ (hR.flt hf rfl rfl rfl) ⟨fun n hn => by (have e1 : ¬ n = 10 := by omega); (have e2 : ¬ n = 11 := by omega); simp only [va_up, if_neg e1, if_neg e2], rfl⟩)
    · refine aw rfl rfl ?_
      refine aw rfl rfl ?_
      refine aw_getf rfl zg_40 rfl ?_
      refine aw_ine rfl (fun c20 => ?_) (fun c20 => ?_)
      · exact aw_vret rfl rfl (q _ hR KQ.rf)
      · refine aw rfl rfl ?_
        refine aw rfl rfl ?_
        refine aw_getf rfl zg_40 rfl ?_
        refine aw_ige rfl (fun c28 => ?_) (fun c28 => ?_)
        · exact aw_vret rfl rfl (q _ hR KQ.rf)
        · refine aw rfl rfl ?_
          refine aw rfl rfl ?_
          refine aw_putfU rfl zg_40 rfl rfl (by decide) zp_40_10 ?_
          refine aw rfl rfl ?_
          refine aw rfl rfl ?_
          refine aw_putfU rfl zg_40 rfl rfl (by decide) zp_40_11 ?_
          exact aw_vret rfl rfl (q _ (hR.flt hf rfl rfl rfl) ⟨fun n hn => by (have e1 : ¬ n = 10 := by omega); (have e2 : ¬ n = 11 := by omega); simp only [va_up, if_neg e1, if_neg e2], rfl⟩)
theorem c_X4_isWord {Q : Option Value → am_H → Prop} {w : Nat} (q1 : K.1 3 = nI 2 ∧ K.1 5 = nI w → Q (some (.int (nI 1))) (cz z g T u X K rf)) (q0 : ¬ (K.1 3 = nI 2 ∧ K.1 5 = nI w) → Q (some (.int (nI 0))) (cz z g T u X K rf)) : AC am_P 0 0 56 [.ref 40, .int (nI w)] (cz z g T u X K rf) Q := by
  refine AC.of (ls := [_, _]) rfl ?_
  refine aw rfl rfl ?_
  refine aw_getf rfl zg_40 rfl ?_
  refine aw_c (v := nI 2) rfl (by decide) ?_
  refine aw_ine rfl (fun c5 => ?_) (fun c5 => ?_)
  · refine aw_c (v := nI 0) rfl (by decide) ?_
    exact aw_iret rfl rfl (q0 (fun w => c5 w.1))
  · refine aw rfl rfl ?_
    refine aw_getf rfl zg_40 rfl ?_
    refine aw rfl rfl ?_
    refine aw_ine rfl (fun c13 => ?_) (fun c13 => ?_)
    · refine aw_c (v := nI 0) rfl (by decide) ?_
      exact aw_iret rfl rfl (q0 (fun w => c13 w.2))
    · refine aw_c (v := nI 1) rfl (by decide) ?_
      refine aw rfl rfl ?_
      exact aw_iret rfl rfl (q1 ⟨c5, c13⟩)
theorem c_X4_isSign {Q : Option Value → am_H → Prop} {w : Nat} (q1 : K.1 3 = nI 4 ∧ K.1 5 = nI w → Q (some (.int (nI 1))) (cz z g T u X K rf)) (q0 : ¬ (K.1 3 = nI 4 ∧ K.1 5 = nI w) → Q (some (.int (nI 0))) (cz z g T u X K rf)) : AC am_P 0 0 57 [.ref 40, .int (nI w)] (cz z g T u X K rf) Q := by
  refine AC.of (ls := [_, _]) rfl ?_
  refine aw rfl rfl ?_
  refine aw_getf rfl zg_40 rfl ?_
  refine aw_c (v := nI 4) rfl (by decide) ?_
  refine aw_ine rfl (fun c5 => ?_) (fun c5 => ?_)
  · refine aw_c (v := nI 0) rfl (by decide) ?_
    exact aw_iret rfl rfl (q0 (fun w => c5 w.1))
  · refine aw rfl rfl ?_
    refine aw_getf rfl zg_40 rfl ?_
    refine aw rfl rfl ?_
    refine aw_ine rfl (fun c13 => ?_) (fun c13 => ?_)
    · refine aw_c (v := nI 0) rfl (by decide) ?_
      exact aw_iret rfl rfl (q0 (fun w => c13 w.2))
    · refine aw_c (v := nI 1) rfl (by decide) ?_
      refine aw rfl rfl ?_
      exact aw_iret rfl rfl (q1 ⟨c5, c13⟩)
theorem c_isWord {Q : Option Value → am_H → Prop} (hR : RS Y K s) (hf : s.2.1.1 = 0) {k w : Nat} (hk : k < 23) (hw : wdC k = w) (q1 : Y.1 s.1 = 20 + k → Q (some (.int (nI 1))) (cz z g T u X K rf)) (q0 : ¬ Y.1 s.1 = 20 + k → Q (some (.int (nI 0))) (cz z g T u X K rf)) : AC am_P 0 0 56 [.ref 40, .int (nI w)] (cz z g T u X K rf) Q := by
  have h := tk_word (hR.2.2.2.2.1 hf).2.1 hk hw
  exact c_X4_isWord (fun a => q1 (h.mp a)) (fun a => q0 (fun b => a (h.mpr b)))
theorem c_isSign {Q : Option Value → am_H → Prop} (hR : RS Y K s) (hf : s.2.1.1 = 0) {k w : Nat} (hk : sgK k) (hw : sgB k = w) (q1 : Y.1 s.1 = k → Q (some (.int (nI 1))) (cz z g T u X K rf)) (q0 : ¬ Y.1 s.1 = k → Q (some (.int (nI 0))) (cz z g T u X K rf)) : AC am_P 0 0 57 [.ref 40, .int (nI w)] (cz z g T u X K rf) Q := by
  have h := tk_sign (hR.2.2.2.2.1 hf).2.1 hk hw
  exact c_X4_isSign (fun a => q1 (h.mp a)) (fun a => q0 (fun b => a (h.mpr b)))
theorem c_X4_takeWord {Q : Option Value → am_H → Prop} (hR : RS Y K s) {k w : Nat} (hk : k < 23) (hw : wdC k = w) (q : ∀ K', RS Y K' (mu Y (20 + k) s) → KQ K K' → Q none (cz z g T u X K' rf)) : AC am_P 1 21 55 [.ref 40, .int (nI w)] (cz z g T u X K rf) Q := by
  refine AC.of (ls := [_, _]) rfl ?_
  refine aw rfl rfl ?_
  refine aw rfl rfl ?_
  refine aw_cv (d1 := 0) (L1 := 0) rfl rfl zg_40 rfl rfl (by decide) (by decide) (Nat.le_of_ble_eq_true rfl) (c_X4_isWord (fun e => ?_) (fun e => ?_))
  · refine aw_eq rfl (fun c => absurd c (by decide)) (fun _ => ?_)
    refine aw rfl rfl ?_
    refine aw_cv (d1 := 0) (L1 := 0) rfl rfl zg_40 rfl rfl (by decide) (by decide) (Nat.le_of_ble_eq_true rfl) (c_X4_take hR (fun K1 hR1 hK1 => ?_))
    refine aw rfl rfl ?_
    exact aw_vret rfl rfl (q K1 (by
    have e9 : mu Y (20 + k) s = go Y s := by unfold mu; rw [if_neg (fun w => w.2 ((tk_word (hR.2.2.2.2.1 w.1).2.1 hk hw).mp e))]
    rw [e9]; exact hR1) hK1)
  · refine aw_eq rfl (fun _ => ?_) (fun c => absurd (by decide) c)
    refine aw rfl rfl ?_
    refine aw_c (v := nI 1) rfl (by decide) ?_
    refine aw_cv (d1 := 0) (L1 := 0) rfl rfl zg_40 rfl rfl (by decide) (by decide) (Nat.le_of_ble_eq_true rfl) (c_X4_fail hR (by decide) (fun K1 hR1 hK1 => ?_))
    exact aw_vret rfl rfl (q K1 (by
    have e9 : mu Y (20 + k) s = fl Y 1 s := by
      by_cases hf : s.2.1.1 = 0
      · unfold mu; rw [if_pos ⟨hf, fun w => e ((tk_word (hR.2.2.2.2.1 hf).2.1 hk hw).mpr w)⟩]
      · rw [mu_f hf, fl_f hf]
    rw [e9]; exact hR1) hK1)
theorem c_X4_takeSign {Q : Option Value → am_H → Prop} (hR : RS Y K s) {k w : Nat} (hk : sgK k) (hw : sgB k = w) (q : ∀ K', RS Y K' (mu Y (k) s) → KQ K K' → Q none (cz z g T u X K' rf)) : AC am_P 1 21 59 [.ref 40, .int (nI w)] (cz z g T u X K rf) Q := by
  refine AC.of (ls := [_, _]) rfl ?_
  refine aw rfl rfl ?_
  refine aw rfl rfl ?_
  refine aw_cv (d1 := 0) (L1 := 0) rfl rfl zg_40 rfl rfl (by decide) (by decide) (Nat.le_of_ble_eq_true rfl) (c_X4_isSign (fun e => ?_) (fun e => ?_))
  · refine aw_eq rfl (fun c => absurd c (by decide)) (fun _ => ?_)
    refine aw rfl rfl ?_
    refine aw_cv (d1 := 0) (L1 := 0) rfl rfl zg_40 rfl rfl (by decide) (by decide) (Nat.le_of_ble_eq_true rfl) (c_X4_take hR (fun K1 hR1 hK1 => ?_))
    refine aw rfl rfl ?_
    exact aw_vret rfl rfl (q K1 (by
    have e9 : mu Y (k) s = go Y s := by unfold mu; rw [if_neg (fun w => w.2 ((tk_sign (hR.2.2.2.2.1 w.1).2.1 hk hw).mp e))]
    rw [e9]; exact hR1) hK1)
  · refine aw_eq rfl (fun _ => ?_) (fun c => absurd (by decide) c)
    refine aw rfl rfl ?_
    refine aw_c (v := nI 1) rfl (by decide) ?_
    refine aw_cv (d1 := 0) (L1 := 0) rfl rfl zg_40 rfl rfl (by decide) (by decide) (Nat.le_of_ble_eq_true rfl) (c_X4_fail hR (by decide) (fun K1 hR1 hK1 => ?_))
    exact aw_vret rfl rfl (q K1 (by
    have e9 : mu Y (k) s = fl Y 1 s := by
      by_cases hf : s.2.1.1 = 0
      · unfold mu; rw [if_pos ⟨hf, fun w => e ((tk_sign (hR.2.2.2.2.1 hf).2.1 hk hw).mpr w)⟩]
      · rw [mu_f hf, fl_f hf]
    rw [e9]; exact hR1) hK1)
theorem c_X4_takeInt {Q : Option Value → am_H → Prop} (hR : RS Y K s) {lo hi : Nat} (hlo : lo ≤ 9999) (hhi : hi ≤ 9999) (q : ∀ K' x, RS Y K' (iS Y lo hi s) → KQ K K' → ((iS Y lo hi s).2.1.1 = 0 → x = nI (iV Y lo s)) → Q (some (.int x)) (cz z g T u X K' rf)) : AC am_P 1 22 54 [.ref 40, .int (nI lo), .int (nI hi)] (cz z g T u X K rf) Q := by
  refine AC.of (ls := [_, _, _, _]) rfl ?_
  by_cases hf : s.2.1.1 = 0
  · have ht := (hR.2.2.2.2.1 hf).2.1
    refine aw rfl rfl ?_
    refine aw_getf rfl zg_40 rfl ?_
    refine aw_c (v := nI 3) rfl (by decide) ?_
    refine aw_ieq rfl (fun c5 => ?_) (fun c5 => ?_)
    · have h2 := (tk_int ht).mp c5
      obtain ⟨hnu, hv9⟩ := tk_inum ht h2
      refine aw rfl rfl ?_
      refine aw_getfE rfl zg_40 rfl (congrArg Value.int hnu) ?_
      refine aw_ist (ls' := [_, _, _, _]) rfl rfl ?_
      refine aw rfl rfl ?_
      refine aw rfl rfl ?_
      refine aw_iltn rfl (fun c22 => ?_) (fun c22 => ?_)
      · refine aw rfl rfl ?_
        refine aw_c (v := nI 5) rfl (by decide) ?_
        refine aw rfl rfl ?_
        refine aw_getfE rfl zg_40 rfl (congrArg Value.int ht.1) ?_
        refine aw_cv (d1 := 0) (L1 := 0) rfl rfl zg_40 rfl rfl (by decide) (by decide) (Nat.le_of_ble_eq_true rfl) (c_failLate hR hf (by decide) ht.2.1 (fun K1 hR1 hK1 => ?_))
        refine aw rfl rfl ?_
        refine aw_cv (d1 := 0) (L1 := 0) rfl rfl zg_40 rfl rfl (by decide) (by decide) (Nat.le_of_ble_eq_true rfl) (c_X4_take hR1 (fun K2 hR2 hK2 => ?_))
        refine aw rfl rfl ?_
        exact aw_iret rfl rfl (q _ _ (by
      have e9 : iS Y lo hi s = go Y (wr 5 (Y.2.1 s.1) s) := by unfold iS; rw [if_neg (fun w => w.2 h2), if_pos (by omega)]
      rw [e9]; exact hR2) (hK1.tr hK2) (fun _ => by unfold iV; rw [if_pos h2]))
      · refine aw rfl rfl ?_
        refine aw rfl rfl ?_
        refine aw_ilen rfl (fun c27 => ?_) (fun c27 => ?_)
        · refine aw rfl rfl ?_
          refine aw_cv (d1 := 0) (L1 := 0) rfl rfl zg_40 rfl rfl (by decide) (by decide) (Nat.le_of_ble_eq_true rfl) (c_X4_take hR (fun K2 hR2 hK2 => ?_))
          refine aw rfl rfl ?_
          exact aw_iret rfl rfl (q _ _ (by
      have e9 : iS Y lo hi s = go Y (s) := by unfold iS; rw [if_neg (fun w => w.2 h2), if_neg (by omega)]
      rw [e9]; exact hR2) (hK2) (fun _ => by unfold iV; rw [if_pos h2]))
        · refine aw rfl rfl ?_
          refine aw_c (v := nI 5) rfl (by decide) ?_
          refine aw rfl rfl ?_
          refine aw_getfE rfl zg_40 rfl (congrArg Value.int ht.1) ?_
          refine aw_cv (d1 := 0) (L1 := 0) rfl rfl zg_40 rfl rfl (by decide) (by decide) (Nat.le_of_ble_eq_true rfl) (c_failLate hR hf (by decide) ht.2.1 (fun K1 hR1 hK1 => ?_))
          refine aw rfl rfl ?_
          refine aw_cv (d1 := 0) (L1 := 0) rfl rfl zg_40 rfl rfl (by decide) (by decide) (Nat.le_of_ble_eq_true rfl) (c_X4_take hR1 (fun K2 hR2 hK2 => ?_))
          refine aw rfl rfl ?_
          exact aw_iret rfl rfl (q _ _ (by
      have e9 : iS Y lo hi s = go Y (wr 5 (Y.2.1 s.1) s) := by unfold iS; rw [if_neg (fun w => w.2 h2), if_pos (by omega)]
      rw [e9]; exact hR2) (hK1.tr hK2) (fun _ => by unfold iV; rw [if_pos h2]))
    · refine aw rfl rfl ?_
      refine aw_c (v := nI 1) rfl (by decide) ?_
      refine aw_cv (d1 := 0) (L1 := 0) rfl rfl zg_40 rfl rfl (by decide) (by decide) (Nat.le_of_ble_eq_true rfl) (c_X4_fail hR (by decide) (fun K1 hR1 hK1 => ?_))
      refine aw rfl rfl ?_
      exact aw_iret rfl rfl (q K1 _ (by rw [iS_n hf (fun w => c5 ((tk_int ht).mpr w))]; exact hR1) hK1 (fun w => absurd w (by rw [iS_n hf (fun w => c5 ((tk_int ht).mpr w))]; exact fl_0 (by decide))))
  · skip
    refine aw rfl rfl ?_
    refine aw_getf rfl zg_40 rfl ?_
    refine aw_c (v := nI 3) rfl (by decide) ?_
    refine aw_ieq rfl (fun c5 => ?_) (fun c5 => ?_)
    · refine aw rfl rfl ?_
      refine aw_getf rfl zg_40 rfl ?_
      refine aw_ist (ls' := [_, _, _, _]) rfl rfl ?_
      refine aw rfl rfl ?_
      refine aw rfl rfl ?_
      refine aw_ilt rfl (fun c22 => ?_) (fun c22 => ?_)
      · refine aw rfl rfl ?_
        refine aw_c (v := nI 5) rfl (by decide) ?_
        refine aw rfl rfl ?_
        refine aw_getf rfl zg_40 rfl ?_
        refine aw_cv (d1 := 0) (L1 := 0) rfl rfl zg_40 rfl rfl (by decide) (by decide) (Nat.le_of_ble_eq_true rfl) (c_failLateF hR hf (fun K1 hR1 hK1 => ?_))
        refine aw rfl rfl ?_
        refine aw_cv (d1 := 0) (L1 := 0) rfl rfl zg_40 rfl rfl (by decide) (by decide) (Nat.le_of_ble_eq_true rfl) (c_X4_take hR1 (fun K2 hR2 hK2 => ?_))
        refine aw rfl rfl ?_
        exact aw_iret rfl rfl (q _ _ (by rw [iS_f hf]; rw [go_f hf] at hR2; exact hR2) (hK1.tr hK2) (fun w => absurd w (by rw [iS_f hf]; exact hf)))
      · refine aw rfl rfl ?_
        refine aw rfl rfl ?_
        refine aw_ile rfl (fun c27 => ?_) (fun c27 => ?_)
        · refine aw rfl rfl ?_
          refine aw_cv (d1 := 0) (L1 := 0) rfl rfl zg_40 rfl rfl (by decide) (by decide) (Nat.le_of_ble_eq_true rfl) (c_X4_take hR (fun K2 hR2 hK2 => ?_))
          refine aw rfl rfl ?_
          exact aw_iret rfl rfl (q _ _ (by rw [iS_f hf]; rw [go_f hf] at hR2; exact hR2) (hK2) (fun w => absurd w (by rw [iS_f hf]; exact hf)))
        · refine aw rfl rfl ?_
          refine aw_c (v := nI 5) rfl (by decide) ?_
          refine aw rfl rfl ?_
          refine aw_getf rfl zg_40 rfl ?_
          refine aw_cv (d1 := 0) (L1 := 0) rfl rfl zg_40 rfl rfl (by decide) (by decide) (Nat.le_of_ble_eq_true rfl) (c_failLateF hR hf (fun K1 hR1 hK1 => ?_))
          refine aw rfl rfl ?_
          refine aw_cv (d1 := 0) (L1 := 0) rfl rfl zg_40 rfl rfl (by decide) (by decide) (Nat.le_of_ble_eq_true rfl) (c_X4_take hR1 (fun K2 hR2 hK2 => ?_))
          refine aw rfl rfl ?_
          exact aw_iret rfl rfl (q _ _ (by rw [iS_f hf]; rw [go_f hf] at hR2; exact hR2) (hK1.tr hK2) (fun w => absurd w (by rw [iS_f hf]; exact hf)))
    · refine aw rfl rfl ?_
      refine aw_c (v := nI 1) rfl (by decide) ?_
      refine aw_cv (d1 := 0) (L1 := 0) rfl rfl zg_40 rfl rfl (by decide) (by decide) (Nat.le_of_ble_eq_true rfl) (c_X4_fail hR (by decide) (fun K1 hR1 hK1 => ?_))
      refine aw rfl rfl ?_
      exact aw_iret rfl rfl (q _ _ (by rw [iS_f hf]; rw [fl_f hf] at hR1; exact hR1) (hK1) (fun w => absurd w (by rw [iS_f hf]; exact hf)))
end C1
