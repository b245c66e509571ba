/-! ===== the class's reader: takeSpot, takeSetting, takeOutcome ===== -/
def spS (Y : Tk) (s : Ps) : Ps := iS Y 0 9 (iS Y 0 9 (iS Y 0 9 (go Y s)))
def spV (Y : Tk) (s : Ps) : Nat → Nat := fun i => if i = 0 then iV Y 0 (go Y s) else if i = 1 then iV Y 0 (iS Y 0 9 (go Y s)) else iV Y 0 (iS Y 0 9 (iS Y 0 9 (go Y s)))
abbrev OT : Type := Nat × Nat × Bool × Nat × Nat
/-- an outcome: sixths, how far, back or not, aside, turns -/
def otc (Y : Tk) (s : Ps) : OT × Ps :=
  let s1 := iS Y 1 6 s
  let s2 := mu Y 23 s1
  let s3 := iS Y 0 4 s2
  let b := decide (s3.2.1.1 = 0 ∧ Y.1 s3.1 = 9)
  let s4 := bif b then go Y s3 else s3
  let s5 := iS Y 0 2 s4
  let t := decide (s5.2.1.1 = 0 ∧ Y.1 s5.1 = 24)
  let s6 := bif t then go Y s5 else s5
  let s7 := bif t then iS Y 0 2 s6 else s6
  ((iV Y 1 s, iV Y 0 s2, b, iV Y 0 s4, bif t then iV Y 0 s6 else 0), s7)
/-- one way of a street told -/
def TO (w : Nat) (T T' : Sd) (x1 x2 x3 x4 : Int32) : Prop := T'.1 = T.1 ∧ (∀ j, j < 2 ∨ 5 < j → T'.2 j = T.2 j) ∧ T'.2 2 = upd (T.2 2) w x1 ∧ T'.2 3 = upd (T.2 3) w x2 ∧ T'.2 4 = upd (T.2 4) w x3 ∧ T'.2 5 = upd (T.2 5) w x4
theorem iS_E {Y : Tk} {s s' : Ps} {lo hi : Nat} (h : iS Y lo hi s = s') (h0 : s'.2.1.1 = 0) : s.2.1.1 = 0 ∧ Y.1 s.1 = 2 ∧ s'.1 = s.1 + 1 := by
  subst h
  have h1 := iS_1 h0
  exact ⟨h1.1, h1.2.1, h1.2.2.2.1⟩
theorem n_ob {n : Nat} (h : n < 2147483648) : (nI n).toBitVec.toNat = n := by
  unfold nI
  simp
  omega
section C1
variable {z : Bool} {g : am_H} {T : Sd} {u : Ua} {X : Sd × Ua} {K : Ck} {rf : Nat → Nat}
variable {Y : Tk} {s : Ps} {C : List Int32} {l : List Nat}
theorem c_isSignE {Q : Option Value → am_H → Prop} (hR : RS Y K s) {k w : Nat} (hk : sgK k) (hw : sgB k = w) (q1 : (s.2.1.1 = 0 → Y.1 s.1 = k) → Q (some (.int (nI 1))) (cz z g T u X K rf)) (q0 : (s.2.1.1 = 0 → ¬ Y.1 s.1 = k) → Q (some (.int (nI 0))) (cz z g T u X K rf)) : AC am_P 0 0 57 [.ref 40, .int (nI w)] (cz z g T u X K rf) Q :=
  c_X4_isSign (fun a => q1 (fun hf => (tk_sign (hR.2.2.2.2.1 hf).2.1 hk hw).mp a)) (fun a => q0 (fun hf b => a ((tk_sign (hR.2.2.2.2.1 hf).2.1 hk hw).mpr b)))
theorem c_isWordE {Q : Option Value → am_H → Prop} (hR : RS Y K s) {k w : Nat} (hk : k < 23) (hw : wdC k = w) (q1 : (s.2.1.1 = 0 → Y.1 s.1 = 20 + k) → Q (some (.int (nI 1))) (cz z g T u X K rf)) (q0 : (s.2.1.1 = 0 → ¬ Y.1 s.1 = 20 + k) → Q (some (.int (nI 0))) (cz z g T u X K rf)) : AC am_P 0 0 56 [.ref 40, .int (nI w)] (cz z g T u X K rf) Q :=
  c_X4_isWord (fun a => q1 (fun hf => (tk_word (hR.2.2.2.2.1 hf).2.1 hk hw).mp a)) (fun a => q0 (fun hf b => a ((tk_word (hR.2.2.2.2.1 hf).2.1 hk hw).mpr b)))
theorem bf_1 {k : Nat} (h : s.2.1.1 = 0 → Y.1 s.1 = k) : (bif decide (s.2.1.1 = 0 ∧ Y.1 s.1 = k) then go Y s else s) = go Y s := by
  by_cases hf : s.2.1.1 = 0
  · rw [decide_eq_true ⟨hf, h hf⟩, cond_true]
  · rw [decide_eq_false (fun w => hf w.1), cond_false, go_f hf]
theorem bf_0 {k : Nat} (h : s.2.1.1 = 0 → ¬ Y.1 s.1 = k) : decide (s.2.1.1 = 0 ∧ Y.1 s.1 = k) = false := decide_eq_false (fun w => h w.1 w.2)
theorem c_takeSpot6 {Q : Option Value → am_H → Prop} (hR : RS Y K s) (q : ∀ K' f, RS Y K' (spS Y s) → KQ K K' → ((spS Y s).2.1.1 = 0 → ∀ i, i < 3 → f i = nI (spV Y s i)) → Q none (cz z g (T.1, va_up T.2 6 f) u X K' rf)) : AC am_P 2 45 65 [.ref 40, .ref (zq z + 13)] (cz z g T u X K rf) Q := by
  refine AC.of (ls := [_, _, _]) rfl ?_
  obtain ⟨s1, hg1⟩ : ∃ p, go Y s = p := ⟨_, rfl⟩
  obtain ⟨s2, hi2⟩ : ∃ p, iS Y 0 9 s1 = p := ⟨_, rfl⟩
  obtain ⟨s3, hi3⟩ : ∃ p, iS Y 0 9 s2 = p := ⟨_, rfl⟩
  obtain ⟨s4, hi4⟩ : ∃ p, iS Y 0 9 s3 = p := ⟨_, rfl⟩
  have hA : spS Y s = s4 := by simp only [spS, hg1, hi2, hi3, hi4]
  rw [hA] at q
  refine aw rfl rfl ?_
  refine aw_cv (d1 := 0) (L1 := 0) rfl rfl zg_40 rfl rfl (by decide) (by decide) (Nat.le_of_ble_eq_true rfl) (c_takeE hR hg1 (fun K1 hR1 hK1 => ?_))
  refine aw_c (v := nI 0) rfl (by decide) ?_
  refine aw_ist (ls' := [_, _, _]) rfl rfl ?_
  refine aw rfl rfl ?_
  refine aw rfl rfl ?_
  refine aw_alen rfl zs_13 rfl ?_
  refine aw_ige rfl (fun c => absurd c (by decide)) (fun _ => ?_)
  refine aw rfl rfl ?_
  refine aw rfl rfl ?_
  refine aw rfl rfl ?_
  refine aw_c (v := nI 0) rfl (by decide) ?_
  refine aw_c (v := nI 9) rfl (by decide) ?_
  refine aw_cv (d1 := 1) (L1 := 22) rfl rfl zg_40 rfl rfl (by decide) (by decide) (Nat.le_of_ble_eq_true rfl) (c_intE hR1 hi2 (by decide) (by decide) (fun K2 x2 hR2 hK2 hx2 => ?_))
  refine aw_iastU rfl zs_13 rfl (by omega) (by decide) zq_8 zv_13 ?_
  refine aw_incc (c := nI 1) (y := nI 1) (ls' := [_, _, _]) rfl rfl (by decide) (by decide) rfl ?_
  refine aw rfl rfl ?_
  refine aw rfl rfl ?_
  refine aw rfl rfl ?_
  refine aw_alen rfl zs_13 rfl ?_
  refine aw_ige rfl (fun c => absurd c (by decide)) (fun _ => ?_)
  refine aw rfl rfl ?_
  refine aw rfl rfl ?_
  refine aw rfl rfl ?_
  refine aw_c (v := nI 0) rfl (by decide) ?_
  refine aw_c (v := nI 9) rfl (by decide) ?_
  refine aw_cv (d1 := 1) (L1 := 22) rfl rfl zg_40 rfl rfl (by decide) (by decide) (Nat.le_of_ble_eq_true rfl) (c_intE hR2 hi3 (by decide) (by decide) (fun K3 x3 hR3 hK3 hx3 => ?_))
  refine aw_iastU rfl zs_13 rfl (by omega) (by decide) zq_8 zv_13 ?_
  refine aw_incc (c := nI 1) (y := nI 2) (ls' := [_, _, _]) rfl rfl (by decide) (by decide) rfl ?_
  refine aw rfl rfl ?_
  refine aw rfl rfl ?_
  refine aw rfl rfl ?_
  refine aw_alen rfl zs_13 rfl ?_
  refine aw_ige rfl (fun c => absurd c (by decide)) (fun _ => ?_)
  refine aw rfl rfl ?_
  refine aw rfl rfl ?_
  refine aw rfl rfl ?_
  refine aw_c (v := nI 0) rfl (by decide) ?_
  refine aw_c (v := nI 9) rfl (by decide) ?_
  refine aw_cv (d1 := 1) (L1 := 22) rfl rfl zg_40 rfl rfl (by decide) (by decide) (Nat.le_of_ble_eq_true rfl) (c_intE hR3 hi4 (by decide) (by decide) (fun K4 x4 hR4 hK4 hx4 => ?_))
  refine aw_iastU rfl zs_13 rfl (by omega) (by decide) zq_8 zv_13 ?_
  refine aw_incc (c := nI 1) (y := nI 3) (ls' := [_, _, _]) rfl rfl (by decide) (by decide) rfl ?_
  refine aw rfl rfl ?_
  refine aw rfl rfl ?_
  refine aw rfl rfl ?_
  refine aw_alen rfl zs_13 rfl ?_
  refine aw_ige rfl (fun _ => ?_) (fun c => absurd (by decide) c)
  exact aw_vret rfl rfl (by
    have q := q K4 (upd (upd (upd (T.2 6) 0 x2) 1 x3) 2 x4) hR4 (((hK1.tr hK2).tr hK3).tr hK4) (fun hg => by
      have i4 := iS_E hi4 hg
      have i3 := iS_E hi3 i4.1
      have e2 := hx2 i3.1
      have e3 := hx3 i4.1
      have e4 := hx4 hg
      intro i hi
      unfold spV
      rw [hg1, hi2, hi3]
      match i, hi with
      | 0, _ => exact e2
      | 1, _ => exact e3
      | 2, _ => exact e4)
    have e9 : (va_up (va_up (va_up T.2 6 (upd (T.2 6) 0 x2)) 6 (upd (upd (T.2 6) 0 x2) 1 x3)) 6 (upd (upd (upd (T.2 6) 0 x2) 1 x3) 2 x4)) = va_up T.2 6 (upd (upd (upd (T.2 6) 0 x2) 1 x3) 2 x4) := by
      funext j
      by_cases ej : j = 6
      · rw [ej, vu_at, vu_at]
      · rw [vu_ot ej, vu_ot ej, vu_ot ej, vu_ot ej]
    rw [← e9] at q
    exact q)
theorem c_takeSpot7 {Q : Option Value → am_H → Prop} (hR : RS Y K s) (q : ∀ K' f, RS Y K' (spS Y s) → KQ K K' → ((spS Y s).2.1.1 = 0 → ∀ i, i < 3 → f i = nI (spV Y s i)) → Q none (cz z g (T.1, va_up T.2 7 f) u X K' rf)) : AC am_P 2 45 65 [.ref 40, .ref (zq z + 14)] (cz z g T u X K rf) Q := by
  refine AC.of (ls := [_, _, _]) rfl ?_
  obtain ⟨s1, hg1⟩ : ∃ p, go Y s = p := ⟨_, rfl⟩
  obtain ⟨s2, hi2⟩ : ∃ p, iS Y 0 9 s1 = p := ⟨_, rfl⟩
  obtain ⟨s3, hi3⟩ : ∃ p, iS Y 0 9 s2 = p := ⟨_, rfl⟩
  obtain ⟨s4, hi4⟩ : ∃ p, iS Y 0 9 s3 = p := ⟨_, rfl⟩
  have hA : spS Y s = s4 := by simp only [spS, hg1, hi2, hi3, hi4]
  rw [hA] at q
  refine aw rfl rfl ?_
  refine aw_cv (d1 := 0) (L1 := 0) rfl rfl zg_40 rfl rfl (by decide) (by decide) (Nat.le_of_ble_eq_true rfl) (c_takeE hR hg1 (fun K1 hR1 hK1 => ?_))
  refine aw_c (v := nI 0) rfl (by decide) ?_
  refine aw_ist (ls' := [_, _, _]) rfl rfl ?_
  refine aw rfl rfl ?_
  refine aw rfl rfl ?_
  refine aw_alen rfl zs_14 rfl ?_
  refine aw_ige rfl (fun c => absurd c (by decide)) (fun _ => ?_)
  refine aw rfl rfl ?_
  refine aw rfl rfl ?_
  refine aw rfl rfl ?_
  refine aw_c (v := nI 0) rfl (by decide) ?_
  refine aw_c (v := nI 9) rfl (by decide) ?_
  refine aw_cv (d1 := 1) (L1 := 22) rfl rfl zg_40 rfl rfl (by decide) (by decide) (Nat.le_of_ble_eq_true rfl) (c_intE hR1 hi2 (by decide) (by decide) (fun K2 x2 hR2 hK2 hx2 => ?_))
  refine aw_iastU rfl zs_14 rfl (by omega) (by decide) zq_8 zv_14 ?_
  refine aw_incc (c := nI 1) (y := nI 1) (ls' := [_, _, _]) rfl rfl (by decide) (by decide) rfl ?_
  refine aw rfl rfl ?_
  refine aw rfl rfl ?_
  refine aw rfl rfl ?_
  refine aw_alen rfl zs_14 rfl ?_
  refine aw_ige rfl (fun c => absurd c (by decide)) (fun _ => ?_)
  refine aw rfl rfl ?_
  refine aw rfl rfl ?_
  refine aw rfl rfl ?_
  refine aw_c (v := nI 0) rfl (by decide) ?_
  refine aw_c (v := nI 9) rfl (by decide) ?_
  refine aw_cv (d1 := 1) (L1 := 22) rfl rfl zg_40 rfl rfl (by decide) (by decide) (Nat.le_of_ble_eq_true rfl) (c_intE hR2 hi3 (by decide) (by decide) (fun K3 x3 hR3 hK3 hx3 => ?_))
  refine aw_iastU rfl zs_14 rfl (by omega) (by decide) zq_8 zv_14 ?_
  refine aw_incc (c := nI 1) (y := nI 2) (ls' := [_, _, _]) rfl rfl (by decide) (by decide) rfl ?_
  refine aw rfl rfl ?_
  refine aw rfl rfl ?_
  refine aw rfl rfl ?_
  refine aw_alen rfl zs_14 rfl ?_
  refine aw_ige rfl (fun c => absurd c (by decide)) (fun _ => ?_)
  refine aw rfl rfl ?_
  refine aw rfl rfl ?_
  refine aw rfl rfl ?_
  refine aw_c (v := nI 0) rfl (by decide) ?_
  refine aw_c (v := nI 9) rfl (by decide) ?_
  refine aw_cv (d1 := 1) (L1 := 22) rfl rfl zg_40 rfl rfl (by decide) (by decide) (Nat.le_of_ble_eq_true rfl) (c_intE hR3 hi4 (by decide) (by decide) (fun K4 x4 hR4 hK4 hx4 => ?_))
  refine aw_iastU rfl zs_14 rfl (by omega) (by decide) zq_8 zv_14 ?_
  refine aw_incc (c := nI 1) (y := nI 3) (ls' := [_, _, _]) rfl rfl (by decide) (by decide) rfl ?_
  refine aw rfl rfl ?_
  refine aw rfl rfl ?_
  refine aw rfl rfl ?_
  refine aw_alen rfl zs_14 rfl ?_
  refine aw_ige rfl (fun _ => ?_) (fun c => absurd (by decide) c)
  exact aw_vret rfl rfl (by
    have q := q K4 (upd (upd (upd (T.2 7) 0 x2) 1 x3) 2 x4) hR4 (((hK1.tr hK2).tr hK3).tr hK4) (fun hg => by
      have i4 := iS_E hi4 hg
      have i3 := iS_E hi3 i4.1
      have e2 := hx2 i3.1
      have e3 := hx3 i4.1
      have e4 := hx4 hg
      intro i hi
      unfold spV
      rw [hg1, hi2, hi3]
      match i, hi with
      | 0, _ => exact e2
      | 1, _ => exact e3
      | 2, _ => exact e4)
    have e9 : (va_up (va_up (va_up T.2 7 (upd (T.2 7) 0 x2)) 7 (upd (upd (T.2 7) 0 x2) 1 x3)) 7 (upd (upd (upd (T.2 7) 0 x2) 1 x3) 2 x4)) = va_up T.2 7 (upd (upd (upd (T.2 7) 0 x2) 1 x3) 2 x4) := by
      funext j
      by_cases ej : j = 7
      · rw [ej, vu_at, vu_at]
      · rw [vu_ot ej, vu_ot ej, vu_ot ej, vu_ot ej]
    rw [← e9] at q
    exact q)
theorem c_set2 {Q : Option Value → am_H → Prop} (hz : rf 2 = zq z) (hR : RS Y K s) (hf : s.2.1.1 = 0) (h1 : Y.1 s.1 = 21) (q : ∀ K' x, RS Y K' (iS Y 1 3 (go Y s)) → KQ K K' → ((iS Y 1 3 (go Y s)).2.1.1 = 0 → x = iV Y 1 (go Y s)) → Q none (cz z g (va_up T.1 2 x, T.2) u X K' rf)) : AC am_P 2 45 66 [.ref 40] (cz z g T u X K rf) Q := by
  refine AC.of (ls := [_]) rfl ?_
  have ht := (hR.2.2.2.2.1 hf).2.1
  have h3 : K.1 3 = nI 2 := (tk_wd ht).mpr (by omega)
  have h5 : K.1 5 = nI 1 := by rw [tk_num ht (by omega), h1]; rfl
  refine aw rfl rfl ?_
  refine aw_getfE rfl zg_40 rfl (congrArg Value.int h3) ?_
  refine aw_c (v := nI 2) rfl (by decide) ?_
  refine aw_ine rfl (fun c => absurd (by decide) c) (fun _ => ?_)
  refine aw rfl rfl ?_
  refine aw_getfE rfl zg_40 rfl (congrArg Value.int h5) ?_
  refine aw rfl rfl ?_
  refine aw_ts (z := 1) (tgt := 72) rfl (by decide) (by decide) ?_
  refine aw rfl rfl ?_
  refine aw_cv (d1 := 0) (L1 := 0) rfl rfl zg_40 rfl rfl (by decide) (by decide) (Nat.le_of_ble_eq_true rfl) (c_takeE hR rfl (fun K1 hR1 hK1 => ?_))
  refine aw rfl rfl ?_
  refine aw_getfE rfl zg_40 rfl (congrArg Value.ref hz) ?_
  refine aw rfl rfl ?_
  refine aw_c (v := nI 1) rfl (by decide) ?_
  refine aw_c (v := nI 3) rfl (by decide) ?_
  refine aw_cv (d1 := 1) (L1 := 22) rfl rfl zg_40 rfl rfl (by decide) (by decide) (Nat.le_of_ble_eq_true rfl) (c_intE hR1 rfl (by decide) (by decide) (fun K2 x hR2 hK2 hx => ?_))
  refine aw_putfU rfl zs_0 rfl rfl zq_88 zo_0_3 ?_
  refine aw rfl rfl ?_
  exact aw_vret rfl rfl (q K2 x.toBitVec.toNat hR2 (hK1.tr hK2) (fun hg => by
    have e := hx hg
    rw [e]
    have hv : iV Y 1 (go Y s) < 2147483648 := by
      have g := iS_E rfl hg
      unfold iV
      rw [if_pos g.2.1]
      have := (tk_inum (hR1.2.2.2.2.1 g.1).2.1 g.2.1).2
      omega
    exact n_ob hv))
theorem c_set4 {Q : Option Value → am_H → Prop} (hz : rf 2 = zq z) (hR : RS Y K s) (hf : s.2.1.1 = 0) (h1 : Y.1 s.1 = 30) (q : ∀ K' x, RS Y K' (iS Y 0 2 (go Y s)) → KQ K K' → ((iS Y 0 2 (go Y s)).2.1.1 = 0 → x = iV Y 0 (go Y s)) → Q none (cz z g (va_up T.1 4 x, T.2) u X K' rf)) : AC am_P 2 45 66 [.ref 40] (cz z g T u X K rf) Q := by
  refine AC.of (ls := [_]) rfl ?_
  have ht := (hR.2.2.2.2.1 hf).2.1
  have h3 : K.1 3 = nI 2 := (tk_wd ht).mpr (by omega)
  have h5 : K.1 5 = nI 8 := by rw [tk_num ht (by omega), h1]; rfl
  refine aw rfl rfl ?_
  refine aw_getfE rfl zg_40 rfl (congrArg Value.int h3) ?_
  refine aw_c (v := nI 2) rfl (by decide) ?_
  refine aw_ine rfl (fun c => absurd (by decide) c) (fun _ => ?_)
  refine aw rfl rfl ?_
  refine aw_getfE rfl zg_40 rfl (congrArg Value.int h5) ?_
  refine aw rfl rfl ?_
  refine aw_ts (z := 8) (tgt := 92) rfl (by decide) (by decide) ?_
  refine aw rfl rfl ?_
  refine aw_cv (d1 := 0) (L1 := 0) rfl rfl zg_40 rfl rfl (by decide) (by decide) (Nat.le_of_ble_eq_true rfl) (c_takeE hR rfl (fun K1 hR1 hK1 => ?_))
  refine aw rfl rfl ?_
  refine aw_getfE rfl zg_40 rfl (congrArg Value.ref hz) ?_
  refine aw rfl rfl ?_
  refine aw_c (v := nI 0) rfl (by decide) ?_
  refine aw_c (v := nI 2) rfl (by decide) ?_
  refine aw_cv (d1 := 1) (L1 := 22) rfl rfl zg_40 rfl rfl (by decide) (by decide) (Nat.le_of_ble_eq_true rfl) (c_intE hR1 rfl (by decide) (by decide) (fun K2 x hR2 hK2 hx => ?_))
  refine aw_putfU rfl zs_0 rfl rfl zq_88 zo_0_13 ?_
  refine aw rfl rfl ?_
  exact aw_vret rfl rfl (q K2 x.toBitVec.toNat hR2 (hK1.tr hK2) (fun hg => by
    have e := hx hg
    rw [e]
    have hv : iV Y 0 (go Y s) < 2147483648 := by
      have g := iS_E rfl hg
      unfold iV
      rw [if_pos g.2.1]
      have := (tk_inum (hR1.2.2.2.2.1 g.1).2.1 g.2.1).2
      omega
    exact n_ob hv))
theorem c_set5 {Q : Option Value → am_H → Prop} (hz : rf 2 = zq z) (hR : RS Y K s) (hf : s.2.1.1 = 0) (h1 : Y.1 s.1 = 31) (q : ∀ K' x, RS Y K' (iS Y 1 99 (go Y s)) → KQ K K' → ((iS Y 1 99 (go Y s)).2.1.1 = 0 → x = iV Y 1 (go Y s)) → Q none (cz z g (va_up T.1 5 x, T.2) u X K' rf)) : AC am_P 2 45 66 [.ref 40] (cz z g T u X K rf) Q := by
  refine AC.of (ls := [_]) rfl ?_
  have ht := (hR.2.2.2.2.1 hf).2.1
  have h3 : K.1 3 = nI 2 := (tk_wd ht).mpr (by omega)
  have h5 : K.1 5 = nI 9 := by rw [tk_num ht (by omega), h1]; rfl
  refine aw rfl rfl ?_
  refine aw_getfE rfl zg_40 rfl (congrArg Value.int h3) ?_
  refine aw_c (v := nI 2) rfl (by decide) ?_
  refine aw_ine rfl (fun c => absurd (by decide) c) (fun _ => ?_)
  refine aw rfl rfl ?_
  refine aw_getfE rfl zg_40 rfl (congrArg Value.int h5) ?_
  refine aw rfl rfl ?_
  refine aw_ts (z := 9) (tgt := 112) rfl (by decide) (by decide) ?_
  refine aw rfl rfl ?_
  refine aw_cv (d1 := 0) (L1 := 0) rfl rfl zg_40 rfl rfl (by decide) (by decide) (Nat.le_of_ble_eq_true rfl) (c_takeE hR rfl (fun K1 hR1 hK1 => ?_))
  refine aw rfl rfl ?_
  refine aw_getfE rfl zg_40 rfl (congrArg Value.ref hz) ?_
  refine aw rfl rfl ?_
  refine aw_c (v := nI 1) rfl (by decide) ?_
  refine aw_c (v := nI 99) rfl (by decide) ?_
  refine aw_cv (d1 := 1) (L1 := 22) rfl rfl zg_40 rfl rfl (by decide) (by decide) (Nat.le_of_ble_eq_true rfl) (c_intE hR1 rfl (by decide) (by decide) (fun K2 x hR2 hK2 hx => ?_))
  refine aw_putfU rfl zs_0 rfl rfl zq_88 zo_0_14 ?_
  refine aw rfl rfl ?_
  exact aw_vret rfl rfl (q K2 x.toBitVec.toNat hR2 (hK1.tr hK2) (fun hg => by
    have e := hx hg
    rw [e]
    have hv : iV Y 1 (go Y s) < 2147483648 := by
      have g := iS_E rfl hg
      unfold iV
      rw [if_pos g.2.1]
      have := (tk_inum (hR1.2.2.2.2.1 g.1).2.1 g.2.1).2
      omega
    exact n_ob hv))
theorem c_set6 {Q : Option Value → am_H → Prop} (hz : rf 2 = zq z) (hR : RS Y K s) (hf : s.2.1.1 = 0) (h1 : Y.1 s.1 = 32) (q : ∀ K' x, RS Y K' (iS Y 0 9999 (go Y s)) → KQ K K' → ((iS Y 0 9999 (go Y s)).2.1.1 = 0 → x = iV Y 0 (go Y s)) → Q none (cz z g (va_up T.1 6 x, T.2) u X K' rf)) : AC am_P 2 45 66 [.ref 40] (cz z g T u X K rf) Q := by
  refine AC.of (ls := [_]) rfl ?_
  have ht := (hR.2.2.2.2.1 hf).2.1
  have h3 : K.1 3 = nI 2 := (tk_wd ht).mpr (by omega)
  have h5 : K.1 5 = nI 10 := by rw [tk_num ht (by omega), h1]; rfl
  refine aw rfl rfl ?_
  refine aw_getfE rfl zg_40 rfl (congrArg Value.int h3) ?_
  refine aw_c (v := nI 2) rfl (by decide) ?_
  refine aw_ine rfl (fun c => absurd (by decide) c) (fun _ => ?_)
  refine aw rfl rfl ?_
  refine aw_getfE rfl zg_40 rfl (congrArg Value.int h5) ?_
  refine aw rfl rfl ?_
  refine aw_ts (z := 10) (tgt := 133) rfl (by decide) (by decide) ?_
  refine aw rfl rfl ?_
  refine aw_cv (d1 := 0) (L1 := 0) rfl rfl zg_40 rfl rfl (by decide) (by decide) (Nat.le_of_ble_eq_true rfl) (c_takeE hR rfl (fun K1 hR1 hK1 => ?_))
  refine aw rfl rfl ?_
  refine aw_getfE rfl zg_40 rfl (congrArg Value.ref hz) ?_
  refine aw rfl rfl ?_
  refine aw_c (v := nI 0) rfl (by decide) ?_
  refine aw_c (v := nI 9999) rfl (by decide) ?_
  refine aw_cv (d1 := 1) (L1 := 22) rfl rfl zg_40 rfl rfl (by decide) (by decide) (Nat.le_of_ble_eq_true rfl) (c_intE hR1 rfl (by decide) (by decide) (fun K2 x hR2 hK2 hx => ?_))
  refine aw_putfU rfl zs_0 rfl rfl zq_88 zo_0_15 ?_
  refine aw rfl rfl ?_
  exact aw_vret rfl rfl (q K2 x.toBitVec.toNat hR2 (hK1.tr hK2) (fun hg => by
    have e := hx hg
    rw [e]
    have hv : iV Y 0 (go Y s) < 2147483648 := by
      have g := iS_E rfl hg
      unfold iV
      rw [if_pos g.2.1]
      have := (tk_inum (hR1.2.2.2.2.1 g.1).2.1 g.2.1).2
      omega
    exact n_ob hv))
theorem c_X4_takeOutcome {Q : Option Value → am_H → Prop} (hz : rf 2 = zq z) (hR : RS Y K s) {w : Nat} (hw : w < 24) (q : ∀ K' T' x1 x2 x3 x4, RS Y K' (otc Y s).2 → KQ K K' → TO w T T' x1 x2 x3 x4 → ((otc Y s).2.2.1.1 = 0 → x1 = nI (otc Y s).1.1 ∧ x2 = nI (otc Y s).1.2.1 ∧ x3 = (bif (otc Y s).1.2.2.1 then - nI (otc Y s).1.2.2.2.1 else nI (otc Y s).1.2.2.2.1) ∧ x4 = nI (otc Y s).1.2.2.2.2) → Q (some (.int x1)) (cz z g T' u X K' rf)) : AC am_P 2 45 53 [.ref 40, .int (nI w)] (cz z g T u X K rf) Q := by
  refine AC.of (ls := [_, _, _, _, _, _, _]) rfl ?_
  obtain ⟨s1, hi1⟩ : ∃ p, iS Y 1 6 s = p := ⟨_, rfl⟩
  obtain ⟨s2, hm2⟩ : ∃ p, mu Y 23 s1 = p := ⟨_, rfl⟩
  obtain ⟨s3, hi3⟩ : ∃ p, iS Y 0 4 s2 = p := ⟨_, rfl⟩
  refine aw rfl rfl ?_
  refine aw_c (v := nI 1) rfl (by decide) ?_
  refine aw_c (v := nI 6) rfl (by decide) ?_
  refine aw_cv (d1 := 1) (L1 := 22) rfl rfl zg_40 rfl rfl (by decide) (by decide) (Nat.le_of_ble_eq_true rfl) (c_intE hR hi1 (by decide) (by decide) (fun K1 x1 hR1 hK1 hx1 => ?_))
  refine aw_ist (ls' := [_, _, _, _, _, _, _]) rfl rfl ?_
  refine aw rfl rfl ?_
  refine aw_c (v := nI 11) rfl (by decide) ?_
  refine aw_cv (d1 := 1) (L1 := 21) rfl rfl zg_40 rfl rfl (by decide) (by decide) (Nat.le_of_ble_eq_true rfl) (c_wordE (k := 3) hR1 hm2 rfl (by decide) rfl (fun K2 hR2 hK2 => ?_))
  refine aw rfl rfl ?_
  refine aw_c (v := nI 0) rfl (by decide) ?_
  refine aw_c (v := nI 4) rfl (by decide) ?_
  refine aw_cv (d1 := 1) (L1 := 22) rfl rfl zg_40 rfl rfl (by decide) (by decide) (Nat.le_of_ble_eq_true rfl) (c_intE hR2 hi3 (by decide) (by decide) (fun K3 x3 hR3 hK3 hx3 => ?_))
  refine aw_ist (ls' := [_, _, _, _, _, _, _]) rfl rfl ?_
  refine aw rfl rfl ?_
  refine aw_c (v := nI 45) rfl (by decide) ?_
  refine aw_cv (d1 := 0) (L1 := 0) rfl rfl zg_40 rfl rfl (by decide) (by decide) (Nat.le_of_ble_eq_true rfl) (c_isSignE (k := 9) hR3 (Or.inl (by decide)) rfl (fun hb => ?_) (fun hb => ?_))
  · have e4 := bf_1 hb
    have hbt : s3.2.1.1 = 0 → decide (s3.2.1.1 = 0 ∧ Y.1 s3.1 = 9) = true := fun hf => decide_eq_true ⟨hf, hb hf⟩
    obtain ⟨s4, hg4⟩ : ∃ p, go Y s3 = p := ⟨_, rfl⟩
    rw [hg4] at e4
    obtain ⟨s5, hi5⟩ : ∃ p, iS Y 0 2 s4 = p := ⟨_, rfl⟩
    refine aw_ist (ls' := [_, _, _, _, _, _, _]) rfl rfl ?_
    refine aw rfl rfl ?_
    refine aw_eq rfl (fun c => absurd c (by decide)) (fun _ => ?_)
    refine aw rfl rfl ?_
    refine aw_cv (d1 := 0) (L1 := 0) rfl rfl zg_40 rfl rfl (by decide) (by decide) (Nat.le_of_ble_eq_true rfl) (c_takeE hR3 hg4 (fun K4 hR4 hK4 => ?_))
    refine aw rfl rfl ?_
    refine aw_c (v := nI 0) rfl (by decide) ?_
    refine aw_c (v := nI 2) rfl (by decide) ?_
    refine aw_cv (d1 := 1) (L1 := 22) rfl rfl zg_40 rfl rfl (by decide) (by decide) (Nat.le_of_ble_eq_true rfl) (c_intE hR4 hi5 (by decide) (by decide) (fun K5 x5 hR5 hK5 hx5 => ?_))
    refine aw_ist (ls' := [_, _, _, _, _, _, _]) rfl rfl ?_
    refine aw_c (v := nI 0) rfl (by decide) ?_
    refine aw_ist (ls' := [_, _, _, _, _, _, _]) rfl rfl ?_
    refine aw rfl rfl ?_
    refine aw_c (v := nI 12) rfl (by decide) ?_
    refine aw_cv (d1 := 0) (L1 := 0) rfl rfl zg_40 rfl rfl (by decide) (by decide) (Nat.le_of_ble_eq_true rfl) (c_isWordE (k := 4) hR5 (by decide) rfl (fun ht => ?_) (fun ht => ?_))
    · have ht : s5.2.1.1 = 0 → Y.1 s5.1 = 24 := ht
      have e6 := bf_1 ht
      obtain ⟨s6, hg6⟩ : ∃ p, go Y s5 = p := ⟨_, rfl⟩
      rw [hg6] at e6
      obtain ⟨s7, hi7⟩ : ∃ p, iS Y 0 2 s6 = p := ⟨_, rfl⟩
      refine aw_eq rfl (fun c => absurd c (by decide)) (fun _ => ?_)
      refine aw rfl rfl ?_
      refine aw_cv (d1 := 0) (L1 := 0) rfl rfl zg_40 rfl rfl (by decide) (by decide) (Nat.le_of_ble_eq_true rfl) (c_takeE hR5 hg6 (fun K6 hR6 hK6 => ?_))
      refine aw rfl rfl ?_
      refine aw_c (v := nI 0) rfl (by decide) ?_
      refine aw_c (v := nI 2) rfl (by decide) ?_
      refine aw_cv (d1 := 1) (L1 := 22) rfl rfl zg_40 rfl rfl (by decide) (by decide) (Nat.le_of_ble_eq_true rfl) (c_intE hR6 hi7 (by decide) (by decide) (fun K7 x7 hR7 hK7 hx7 => ?_))
      refine aw_ist (ls' := [_, _, _, _, _, _, _]) rfl rfl ?_
      refine aw rfl rfl ?_
      refine aw_ltn rfl ?_
      refine aw rfl rfl ?_
      refine aw_c (v := nI 24) rfl (by decide) ?_
      refine aw_igen rfl (fun c77 => by omega) (fun c77 => ?_)
      refine aw rfl rfl ?_
      refine aw_getfE rfl zg_40 rfl (congrArg Value.ref hz) ?_
      refine aw_getf rfl zs_0 rfl ?_
      refine aw rfl rfl ?_
      refine aw rfl rfl ?_
      refine aw_iastU rfl zs_3 rfl (by omega) (by decide) zq_8 zv_3 ?_
      refine aw rfl rfl ?_
      refine aw_getfE rfl zg_40 rfl (congrArg Value.ref hz) ?_
      refine aw_getf rfl zs_0 rfl ?_
      refine aw rfl rfl ?_
      refine aw rfl rfl ?_
      refine aw_iastU rfl zs_4 rfl (by omega) (by decide) zq_8 zv_4 ?_
      refine aw rfl rfl ?_
      refine aw_getfE rfl zg_40 rfl (congrArg Value.ref hz) ?_
      refine aw_getf rfl zs_0 rfl ?_
      refine aw rfl rfl ?_
      refine aw rfl rfl ?_
      refine aw_eq rfl (fun c => absurd c (by decide)) (fun _ => ?_)
      refine aw rfl rfl ?_
      refine aw rfl rfl ?_
      refine aw rfl rfl ?_
      refine aw_iastU rfl zs_5 rfl (by omega) (by decide) zq_8 zv_5 ?_
      refine aw rfl rfl ?_
      refine aw_getfE rfl zg_40 rfl (congrArg Value.ref hz) ?_
      refine aw_getf rfl zs_0 rfl ?_
      refine aw rfl rfl ?_
      refine aw rfl rfl ?_
      refine aw_iastU rfl zs_6 rfl (by omega) (by decide) zq_8 zv_6 ?_
      refine aw rfl rfl ?_
      exact aw_iret rfl rfl (by
    have hO : (otc Y s).2 = s7 := by
      simp only [otc, hi1, hm2, hi3, hg4, e4, hi5, hg6, e6]
      by_cases hf : s5.2.1.1 = 0
      · rw [decide_eq_true ⟨hf, ht hf⟩, cond_true, hi7]
      · rw [decide_eq_false (fun w => hf w.1), cond_false]; rw [← hg6, go_f hf] at hi7; rw [iS_f hf] at hi7; rw [← hg6, go_f hf]; exact hi7
    refine q K7 _ x1 x3 (-x5) x7 (by rw [hO]; exact hR7) ((((((hK1.tr hK2).tr hK3).tr hK4).tr hK5).tr hK6).tr hK7) ⟨rfl, fun j hj => ?_, rfl, rfl, rfl, rfl⟩ (fun hg => ?_)
    · have j2 : ¬ j = 2 := by omega
      have j3 : ¬ j = 3 := by omega
      have j4 : ¬ j = 4 := by omega
      have j5 : ¬ j = 5 := by omega
      simp only [va_up, if_neg j2, if_neg j3, if_neg j4, if_neg j5]
    · rw [hO] at hg
      have i7 := iS_E hi7 hg
      have g6 := go_E hg6 i7.1
      have hf5 := g6.1
      have i5 := iS_E hi5 hf5
      have g4 := go_E hg4 i5.1
      have hf3 := g4.1
      have i3 := iS_E hi3 hf3
      have m2 := mu_E hm2 i3.1
      have y1 := hx1 m2.1
      have y3 := hx3 hf3
      have y5 := hx5 hf5
      have y7 := hx7 hg
      simp only [otc, hi1, hm2, hi3, hbt hf3, cond_true, hg4, hi5, decide_eq_true (show s5.2.1.1 = 0 ∧ Y.1 s5.1 = 24 from ⟨hf5, ht hf5⟩), cond_true, hg6]
      exact ⟨y1, y3, by rw [y5], y7⟩)
    · have htf := bf_0 (k := 24) ht
      refine aw_eq rfl (fun _ => ?_) (fun c => absurd (by decide) c)
      refine aw rfl rfl ?_
      refine aw_ltn rfl ?_
      refine aw rfl rfl ?_
      refine aw_c (v := nI 24) rfl (by decide) ?_
      refine aw_igen rfl (fun c77 => by omega) (fun c77 => ?_)
      refine aw rfl rfl ?_
      refine aw_getfE rfl zg_40 rfl (congrArg Value.ref hz) ?_
      refine aw_getf rfl zs_0 rfl ?_
      refine aw rfl rfl ?_
      refine aw rfl rfl ?_
      refine aw_iastU rfl zs_3 rfl (by omega) (by decide) zq_8 zv_3 ?_
      refine aw rfl rfl ?_
      refine aw_getfE rfl zg_40 rfl (congrArg Value.ref hz) ?_
      refine aw_getf rfl zs_0 rfl ?_
      refine aw rfl rfl ?_
      refine aw rfl rfl ?_
      refine aw_iastU rfl zs_4 rfl (by omega) (by decide) zq_8 zv_4 ?_
      refine aw rfl rfl ?_
      refine aw_getfE rfl zg_40 rfl (congrArg Value.ref hz) ?_
      refine aw_getf rfl zs_0 rfl ?_
      refine aw rfl rfl ?_
      refine aw rfl rfl ?_
      refine aw_eq rfl (fun c => absurd c (by decide)) (fun _ => ?_)
      refine aw rfl rfl ?_
      refine aw rfl rfl ?_
      refine aw rfl rfl ?_
      refine aw_iastU rfl zs_5 rfl (by omega) (by decide) zq_8 zv_5 ?_
      refine aw rfl rfl ?_
      refine aw_getfE rfl zg_40 rfl (congrArg Value.ref hz) ?_
      refine aw_getf rfl zs_0 rfl ?_
      refine aw rfl rfl ?_
      refine aw rfl rfl ?_
      refine aw_iastU rfl zs_6 rfl (by omega) (by decide) zq_8 zv_6 ?_
      refine aw rfl rfl ?_
      exact aw_iret rfl rfl (by
    have hO : (otc Y s).2 = s5 := by
      simp only [otc, hi1, hm2, hi3, hg4, e4, hi5, htf, cond_false]
    refine q K5 _ x1 x3 (-x5) (nI 0) (by rw [hO]; exact hR5) ((((hK1.tr hK2).tr hK3).tr hK4).tr hK5) ⟨rfl, fun j hj => ?_, rfl, rfl, rfl, rfl⟩ (fun hg => ?_)
    · have j2 : ¬ j = 2 := by omega
      have j3 : ¬ j = 3 := by omega
      have j4 : ¬ j = 4 := by omega
      have j5 : ¬ j = 5 := by omega
      simp only [va_up, if_neg j2, if_neg j3, if_neg j4, if_neg j5]
    · rw [hO] at hg
      have hf5 := hg
      have i5 := iS_E hi5 hf5
      have g4 := go_E hg4 i5.1
      have hf3 := g4.1
      have i3 := iS_E hi3 hf3
      have m2 := mu_E hm2 i3.1
      have y1 := hx1 m2.1
      have y3 := hx3 hf3
      have y5 := hx5 hf5
      simp only [otc, hi1, hm2, hi3, hbt hf3, cond_true, hg4, hi5, htf, cond_false]
      exact ⟨y1, y3, by rw [y5], trivial⟩)
  · have hbf := bf_0 hb
    obtain ⟨s5, hi5⟩ : ∃ p, iS Y 0 2 s3 = p := ⟨_, rfl⟩
    refine aw_ist (ls' := [_, _, _, _, _, _, _]) rfl rfl ?_
    refine aw rfl rfl ?_
    refine aw_eq rfl (fun _ => ?_) (fun c => absurd (by decide) c)
    refine aw rfl rfl ?_
    refine aw_c (v := nI 0) rfl (by decide) ?_
    refine aw_c (v := nI 2) rfl (by decide) ?_
    refine aw_cv (d1 := 1) (L1 := 22) rfl rfl zg_40 rfl rfl (by decide) (by decide) (Nat.le_of_ble_eq_true rfl) (c_intE hR3 hi5 (by decide) (by decide) (fun K5 x5 hR5 hK5 hx5 => ?_))
    refine aw_ist (ls' := [_, _, _, _, _, _, _]) rfl rfl ?_
    refine aw_c (v := nI 0) rfl (by decide) ?_
    refine aw_ist (ls' := [_, _, _, _, _, _, _]) rfl rfl ?_
    refine aw rfl rfl ?_
    refine aw_c (v := nI 12) rfl (by decide) ?_
    refine aw_cv (d1 := 0) (L1 := 0) rfl rfl zg_40 rfl rfl (by decide) (by decide) (Nat.le_of_ble_eq_true rfl) (c_isWordE (k := 4) hR5 (by decide) rfl (fun ht => ?_) (fun ht => ?_))
    · have ht : s5.2.1.1 = 0 → Y.1 s5.1 = 24 := ht
      have e6 := bf_1 ht
      obtain ⟨s6, hg6⟩ : ∃ p, go Y s5 = p := ⟨_, rfl⟩
      rw [hg6] at e6
      obtain ⟨s7, hi7⟩ : ∃ p, iS Y 0 2 s6 = p := ⟨_, rfl⟩
      refine aw_eq rfl (fun c => absurd c (by decide)) (fun _ => ?_)
      refine aw rfl rfl ?_
      refine aw_cv (d1 := 0) (L1 := 0) rfl rfl zg_40 rfl rfl (by decide) (by decide) (Nat.le_of_ble_eq_true rfl) (c_takeE hR5 hg6 (fun K6 hR6 hK6 => ?_))
      refine aw rfl rfl ?_
      refine aw_c (v := nI 0) rfl (by decide) ?_
      refine aw_c (v := nI 2) rfl (by decide) ?_
      refine aw_cv (d1 := 1) (L1 := 22) rfl rfl zg_40 rfl rfl (by decide) (by decide) (Nat.le_of_ble_eq_true rfl) (c_intE hR6 hi7 (by decide) (by decide) (fun K7 x7 hR7 hK7 hx7 => ?_))
      refine aw_ist (ls' := [_, _, _, _, _, _, _]) rfl rfl ?_
      refine aw rfl rfl ?_
      refine aw_ltn rfl ?_
      refine aw rfl rfl ?_
      refine aw_c (v := nI 24) rfl (by decide) ?_
      refine aw_igen rfl (fun c77 => by omega) (fun c77 => ?_)
      refine aw rfl rfl ?_
      refine aw_getfE rfl zg_40 rfl (congrArg Value.ref hz) ?_
      refine aw_getf rfl zs_0 rfl ?_
      refine aw rfl rfl ?_
      refine aw rfl rfl ?_
      refine aw_iastU rfl zs_3 rfl (by omega) (by decide) zq_8 zv_3 ?_
      refine aw rfl rfl ?_
      refine aw_getfE rfl zg_40 rfl (congrArg Value.ref hz) ?_
      refine aw_getf rfl zs_0 rfl ?_
      refine aw rfl rfl ?_
      refine aw rfl rfl ?_
      refine aw_iastU rfl zs_4 rfl (by omega) (by decide) zq_8 zv_4 ?_
      refine aw rfl rfl ?_
      refine aw_getfE rfl zg_40 rfl (congrArg Value.ref hz) ?_
      refine aw_getf rfl zs_0 rfl ?_
      refine aw rfl rfl ?_
      refine aw rfl rfl ?_
      refine aw_eq rfl (fun _ => ?_) (fun c => absurd (by decide) c)
      refine aw rfl rfl ?_
      refine aw_iastU rfl zs_5 rfl (by omega) (by decide) zq_8 zv_5 ?_
      refine aw rfl rfl ?_
      refine aw_getfE rfl zg_40 rfl (congrArg Value.ref hz) ?_
      refine aw_getf rfl zs_0 rfl ?_
      refine aw rfl rfl ?_
      refine aw rfl rfl ?_
      refine aw_iastU rfl zs_6 rfl (by omega) (by decide) zq_8 zv_6 ?_
      refine aw rfl rfl ?_
      exact aw_iret rfl rfl (by
    have hO : (otc Y s).2 = s7 := by
      simp only [otc, hi1, hm2, hi3, hbf, cond_false, hi5, hg6, e6]
      by_cases hf : s5.2.1.1 = 0
      · rw [decide_eq_true ⟨hf, ht hf⟩, cond_true, hi7]
      · rw [decide_eq_false (fun w => hf w.1), cond_false]; rw [← hg6, go_f hf] at hi7; rw [iS_f hf] at hi7; rw [← hg6, go_f hf]; exact hi7
    refine q K7 _ x1 x3 x5 x7 (by rw [hO]; exact hR7) (((((hK1.tr hK2).tr hK3).tr hK5).tr hK6).tr hK7) ⟨rfl, fun j hj => ?_, rfl, rfl, rfl, rfl⟩ (fun hg => ?_)
    · have j2 : ¬ j = 2 := by omega
      have j3 : ¬ j = 3 := by omega
      have j4 : ¬ j = 4 := by omega
      have j5 : ¬ j = 5 := by omega
      simp only [va_up, if_neg j2, if_neg j3, if_neg j4, if_neg j5]
    · rw [hO] at hg
      have i7 := iS_E hi7 hg
      have g6 := go_E hg6 i7.1
      have hf5 := g6.1
      have i5 := iS_E hi5 hf5
      have hf3 := i5.1
      have i3 := iS_E hi3 hf3
      have m2 := mu_E hm2 i3.1
      have y1 := hx1 m2.1
      have y3 := hx3 hf3
      have y5 := hx5 hf5
      have y7 := hx7 hg
      simp only [otc, hi1, hm2, hi3, hbf, cond_false, hi5, decide_eq_true (show s5.2.1.1 = 0 ∧ Y.1 s5.1 = 24 from ⟨hf5, ht hf5⟩), cond_true, hg6]
      exact ⟨y1, y3, by rw [y5], y7⟩)
    · have htf := bf_0 (k := 24) ht
      refine aw_eq rfl (fun _ => ?_) (fun c => absurd (by decide) c)
      refine aw rfl rfl ?_
      refine aw_ltn rfl ?_
      refine aw rfl rfl ?_
      refine aw_c (v := nI 24) rfl (by decide) ?_
      refine aw_igen rfl (fun c77 => by omega) (fun c77 => ?_)
      refine aw rfl rfl ?_
      refine aw_getfE rfl zg_40 rfl (congrArg Value.ref hz) ?_
      refine aw_getf rfl zs_0 rfl ?_
      refine aw rfl rfl ?_
      refine aw rfl rfl ?_
      refine aw_iastU rfl zs_3 rfl (by omega) (by decide) zq_8 zv_3 ?_
      refine aw rfl rfl ?_
      refine aw_getfE rfl zg_40 rfl (congrArg Value.ref hz) ?_
      refine aw_getf rfl zs_0 rfl ?_
      refine aw rfl rfl ?_
      refine aw rfl rfl ?_
      refine aw_iastU rfl zs_4 rfl (by omega) (by decide) zq_8 zv_4 ?_
      refine aw rfl rfl ?_
      refine aw_getfE rfl zg_40 rfl (congrArg Value.ref hz) ?_
      refine aw_getf rfl zs_0 rfl ?_
      refine aw rfl rfl ?_
      refine aw rfl rfl ?_
      refine aw_eq rfl (fun _ => ?_) (fun c => absurd (by decide) c)
      refine aw rfl rfl ?_
      refine aw_iastU rfl zs_5 rfl (by omega) (by decide) zq_8 zv_5 ?_
      refine aw rfl rfl ?_
      refine aw_getfE rfl zg_40 rfl (congrArg Value.ref hz) ?_
      refine aw_getf rfl zs_0 rfl ?_
      refine aw rfl rfl ?_
      refine aw rfl rfl ?_
      refine aw_iastU rfl zs_6 rfl (by omega) (by decide) zq_8 zv_6 ?_
      refine aw rfl rfl ?_
      exact aw_iret rfl rfl (by
    have hO : (otc Y s).2 = s5 := by
      simp only [otc, hi1, hm2, hi3, hbf, cond_false, hi5, htf, cond_false]
    refine q K5 _ x1 x3 x5 (nI 0) (by rw [hO]; exact hR5) (((hK1.tr hK2).tr hK3).tr hK5) ⟨rfl, fun j hj => ?_, rfl, rfl, rfl, rfl⟩ (fun hg => ?_)
    · have j2 : ¬ j = 2 := by omega
      have j3 : ¬ j = 3 := by omega
      have j4 : ¬ j = 4 := by omega
      have j5 : ¬ j = 5 := by omega
      simp only [va_up, if_neg j2, if_neg j3, if_neg j4, if_neg j5]
    · rw [hO] at hg
      have hf5 := hg
      have i5 := iS_E hi5 hf5
      have hf3 := i5.1
      have i3 := iS_E hi3 hf3
      have m2 := mu_E hm2 i3.1
      have y1 := hx1 m2.1
      have y3 := hx3 hf3
      have y5 := hx5 hf5
      simp only [otc, hi1, hm2, hi3, hbf, cond_false, hi5, htf, cond_false]
      exact ⟨y1, y3, by rw [y5], trivial⟩)
end C1
