/-! ===== the class laid ahead: clear, layAhead; the constructor's end ===== -/
/-- the street that lies ahead of any text -/
def DSt (T : Sd) : Prop := (T.1 0 = 2 ∧ T.1 1 = 1 ∧ T.1 2 = 1 ∧ T.1 3 = 1 ∧ T.1 4 = 0 ∧ T.1 5 = 5 ∧ T.1 6 = 0 ∧ T.1 7 = 0 ∧ T.1 8 = 0) ∧ (T.2 0 0 = nI 0 ∧ T.2 0 1 = nI 6 ∧ ∀ a, 2 ≤ a → a < 32 → T.2 0 a = -1) ∧ (T.2 1 0 = nI 1 ∧ T.2 2 0 = nI 6 ∧ T.2 3 0 = nI 1 ∧ T.2 4 0 = nI 0 ∧ T.2 5 0 = nI 0 ∧ T.2 2 24 = nI 6) ∧ (∀ i, i < 3 → T.2 6 i = nI 0) ∧ (∀ i, i < 3 → T.2 7 i = nI 0) ∧ (∀ i, i < 3 → T.2 9 i = -1)
theorem DSt.gs {T : Sd} (h : DSt T) : GS T := by
  obtain ⟨⟨a0, a1, a2, a3, a4, a5, a6, a7, a8⟩, ⟨b0, b1, b2⟩, ⟨c1, c2, c3, c4, c5, c6⟩, d6, d7, d9⟩ := h
  have o0 : oc T 0 = 1 := by unfold oc; rw [c1]; rfl
  have s0 : sx T 0 = 6 := by unfold sx; rw [c2]; rfl
  have hl : lieOK T ((0 * 8 + 0) * 3 + 0) := ⟨by decide, by rw [a0]; decide, by rw [a1]; decide, by rw [a2]; decide, by show ¬ T.2 0 0 = nI 4; rw [b0]; decide, by show ¬ T.2 0 0 = nI 5; rw [b0]; decide⟩
  refine ⟨by omega, by omega, by omega, by omega, by omega, by omega, by omega, fun s hs => ⟨fun hh => ?_, fun hh => ?_⟩, fun j hj => ?_, c6, ⟨0, 0, 0, d6 0 (by decide), d6 1 (by decide), d6 2 (by decide), by omega, by omega, by omega, hl⟩, ⟨0, 0, 0, d7 0 (by decide), d7 1 (by decide), d7 2 (by decide), by omega, by omega, by omega, hl⟩⟩
  · rw [a0, a1] at hh
    have e : s = 0 ∨ s = 1 := by omega
    rcases e with rfl | rfl
    · exact ⟨0, by decide, b0⟩
    · exact ⟨6, by decide, b1⟩
  · rw [a0, a1] at hh
    exact b2 s (by omega) hs
  · have e : j = 0 := by omega
    subst e
    rw [o0]
    refine ⟨c1, by decide, by decide, ?_, fun o ho => ?_⟩
    · show 0 + sx T (6 * 0 + 0) = 6
      rw [show sx T (6 * 0 + 0) = sx T 0 from rfl, s0]
    · have e2 : o = 0 := by omega
      subst e2
      show T.2 2 0 = nI (sx T 0) ∧ 1 ≤ sx T 0 ∧ sx T 0 ≤ 6 ∧ ∃ t : Nat, t ≤ 2 ∧ T.2 5 0 = nI t
      rw [s0]
      exact ⟨c2, by decide, by decide, 0, by decide, c5⟩
theorem DSt.lw {T : Sd} (h : DSt T) : LWs T (lwf (fun _ => [])) ∧ UT T (lwf (fun _ => [])) := by
  obtain ⟨⟨a0, a1, a2, a3, a4, a5, a6, a7, a8⟩, _, _, d6, d7, d9⟩ := h
  refine CWl.lws (C := []) (u := (0, fun _ => 0, fun _ => 0, fun _ => 0)) ⟨⟨a7, Nat.zero_le _, fun i hi => absurd hi (Nat.not_lt_zero i)⟩, by omega, fun i hi => Or.inl ⟨d9 i hi, rfl⟩⟩ (fun i b hb => absurd hb List.not_mem_nil)
section C1
variable {z : Bool} {g : am_H} {T : Sd} {u : Ua} {X : Sd × Ua} {K : Ck} {rf : Nat → Nat}
theorem c_clr2 {Q : Option Value → am_H → Prop} (q : ∀ T', CLR T' → (∀ j, j = 1 ∨ j = 3 ∨ j = 4 ∨ j = 5 → T'.2 j = T.2 j) → Q none (cz z g T' u X K rf)) : AC am_P 2 43 86 [.ref (zq z)] (cz z g T u X K rf) Q := by
  refine AC.of (ls := [_]) rfl ?_
  refine aw rfl rfl ?_
  refine aw_c (v := nI 0) rfl (by decide) ?_
  refine aw_putfU rfl zs_0 rfl rfl zq_88 zt_0_0 ?_
  refine aw rfl rfl ?_
  refine aw_c (v := nI 0) rfl (by decide) ?_
  refine aw_putfU rfl zs_0 rfl rfl zq_88 zt_0_1 ?_
  refine aw rfl rfl ?_
  refine aw_getf rfl zs_0 rfl ?_
  refine aw_c (v := -1) rfl (by decide) ?_
  refine aw_cs (d1 := 0) (L1 := 0) rfl rfl (by decide) (by decide) (Nat.le_of_ble_eq_true rfl) (c_X13_fill zs_1 (by decide) zq_8 (fun y0 hy0 => ?_))
  rw [zv_1]
  refine aw rfl rfl ?_
  refine aw_c (v := nI 1) rfl (by decide) ?_
  refine aw_putfU rfl zs_0 rfl rfl zq_88 zt_0_3 ?_
  refine aw rfl rfl ?_
  refine aw_c (v := nI 0) rfl (by decide) ?_
  refine aw_putfU rfl zs_0 rfl rfl zq_88 zt_0_4 ?_
  refine aw rfl rfl ?_
  refine aw_getf rfl zs_0 rfl ?_
  refine aw_c (v := nI 24) rfl (by decide) ?_
  refine aw_c (v := nI 6) rfl (by decide) ?_
  refine aw_iastU rfl zs_3 rfl (by omega) (by decide) zq_8 zv_3 ?_
  refine aw rfl rfl ?_
  refine aw_getf rfl zs_0 rfl ?_
  refine aw_cv (d1 := 1) (L1 := 23) rfl rfl zs_7 rfl rfl (by decide) (by decide) (Nat.le_of_ble_eq_true rfl) (c_X1_clear (fun y2 hy2 => ?_))
  refine aw rfl rfl ?_
  refine aw_getf rfl zs_0 rfl ?_
  refine aw_c (v := nI 0) rfl (by decide) ?_
  refine aw_cs (d1 := 0) (L1 := 0) rfl rfl (by decide) (by decide) (Nat.le_of_ble_eq_true rfl) (c_X13_fill zs_13 (by decide) zq_8 (fun y3 hy3 => ?_))
  rw [zv_13]
  refine aw rfl rfl ?_
  refine aw_getf rfl zs_0 rfl ?_
  refine aw_c (v := nI 0) rfl (by decide) ?_
  refine aw_cs (d1 := 0) (L1 := 0) rfl rfl (by decide) (by decide) (Nat.le_of_ble_eq_true rfl) (c_X13_fill zs_14 (by decide) zq_8 (fun y4 hy4 => ?_))
  rw [zv_14]
  refine aw rfl rfl ?_
  refine aw_c (v := nI 0) rfl (by decide) ?_
  refine aw_putfU rfl zs_0 rfl rfl zq_88 zt_0_13 ?_
  refine aw rfl rfl ?_
  refine aw_c (v := nI 5) rfl (by decide) ?_
  refine aw_putfU rfl zs_0 rfl rfl zq_88 zt_0_14 ?_
  refine aw rfl rfl ?_
  refine aw_c (v := nI 0) rfl (by decide) ?_
  refine aw_putfU rfl zs_0 rfl rfl zq_88 zt_0_15 ?_
  exact aw_vret rfl rfl (q _ (by
    refine ⟨rfl, rfl, rfl, rfl, rfl, rfl, rfl, rfl, rfl, hy0, rfl, hy3, hy4, hy2⟩) (fun j hj => by rcases hj with rfl | rfl | rfl | rfl <;> rfl))
theorem c_X7_layAhead {Q : Option Value → am_H → Prop} (h4 : T.2 4 0 = nI 0) (h5 : T.2 5 0 = nI 0) (q : ∀ T', DSt T' → Q none (cz z g T' u X K rf)) : AC am_P 3 63 85 [.ref (zq z)] (cz z g T u X K rf) Q := by
  refine AC.of (ls := [_]) rfl ?_
  refine aw rfl rfl ?_
  refine aw_cv (d1 := 2) (L1 := 43) rfl rfl zs_0 rfl rfl (by decide) (by decide) (Nat.le_of_ble_eq_true rfl) (c_clr2 (fun T1 hC hT => ?_))
  refine aw rfl rfl ?_
  refine aw_c (v := nI 2) rfl (by decide) ?_
  refine aw_putfU rfl zs_0 rfl rfl zq_88 zt_0_0 ?_
  refine aw rfl rfl ?_
  refine aw_c (v := nI 1) rfl (by decide) ?_
  refine aw_putfU rfl zs_0 rfl rfl zq_88 zt_0_1 ?_
  refine aw rfl rfl ?_
  refine aw_getf rfl zs_0 rfl ?_
  refine aw_c (v := nI 0) rfl (by decide) ?_
  refine aw_c (v := nI 0) rfl (by decide) ?_
  refine aw_iastU rfl zs_1 rfl (by omega) (by decide) zq_8 zv_1 ?_
  refine aw rfl rfl ?_
  refine aw_getf rfl zs_0 rfl ?_
  refine aw_c (v := nI 1) rfl (by decide) ?_
  refine aw_c (v := nI 6) rfl (by decide) ?_
  refine aw_iastU rfl zs_1 rfl (by omega) (by decide) zq_8 zv_1 ?_
  refine aw rfl rfl ?_
  refine aw_c (v := nI 1) rfl (by decide) ?_
  refine aw_putfU rfl zs_0 rfl rfl zq_88 zt_0_4 ?_
  refine aw rfl rfl ?_
  refine aw_getf rfl zs_0 rfl ?_
  refine aw_c (v := nI 0) rfl (by decide) ?_
  refine aw_c (v := nI 1) rfl (by decide) ?_
  refine aw_iastU rfl zs_2 rfl (by omega) (by decide) zq_8 zv_2 ?_
  refine aw rfl rfl ?_
  refine aw_getf rfl zs_0 rfl ?_
  refine aw_c (v := nI 0) rfl (by decide) ?_
  refine aw_c (v := nI 6) rfl (by decide) ?_
  refine aw_iastU rfl zs_3 rfl (by omega) (by decide) zq_8 zv_3 ?_
  refine aw rfl rfl ?_
  refine aw_getf rfl zs_0 rfl ?_
  refine aw_c (v := nI 0) rfl (by decide) ?_
  refine aw_c (v := nI 1) rfl (by decide) ?_
  refine aw_iastU rfl zs_4 rfl (by omega) (by decide) zq_8 zv_4 ?_
  exact aw_vret rfl rfl (q _ (by
    obtain ⟨e0, e1, e2, e3, e4, e5, e6, e7, e8, e9, f1, f2, f3, f4⟩ := hC
    refine ⟨⟨rfl, rfl, e2, rfl, e4, e5, e6, e7, e8⟩, ⟨rfl, rfl, fun a h2 h32 => ?_⟩, ⟨rfl, rfl, rfl, ?_, ?_, f1⟩, f2, f3, f4⟩
    · show upd (upd (T1.2 0) 0 (nI 0)) 1 (nI 6) a = -1
      rw [upd_ne (by omega), upd_ne (by omega)]
      exact e9 a h32
    · exact (congrFun (hT 4 (by omega)) 0).trans h4
    · exact (congrFun (hT 5 (by omega)) 0).trans h5))
end C1
def i_T : Sd := (fun n => if n = 2 then 1 else if n = 5 then 5 else 0, fun _ _ => 0)
def i_u : Ua := (0, fun _ => 0, fun _ => 0, fun _ => 0)
def i_K : Ck := (fun n => if n = 1 ∨ n = 9 ∨ n = 11 ∨ n = 23 ∨ n = 24 then -1 else 0, fun _ _ => 0, fun _ _ => 0, fun _ => 0, va_up (fun _ => none) 0 (some 103))
def i_rf : Nat → Nat := fun n => if n = 1 ∨ n = 2 then 25 else if n = 6 then 106 else if n = 7 then 107 else if n = 8 then 103 else 10
theorem i_sl : va_up (va_up (va_up (fun _ => none) 0 (some (8 + 110))) 1 (some (8 + 111))) 2 (some (8 + 112)) = n_slots := by
  funext i
  by_cases h2 : i = 2
  · subst h2; rfl
  · rw [vu_ot h2]
    by_cases h1 : i = 1
    · subst h1; rfl
    · rw [vu_ot h1]
      by_cases h0 : i = 0
      · subst h0; rfl
      · rw [vu_ot h0]
        show none = if i < 3 then some (118 + i) else none
        rw [if_neg (by omega)]
def i_c : List am_C := [.inl (10, [.ref (8 + 1), .int (nI 0), .int (-1), .ref (8 + 2), .ref (8 + 17), .ref (8 + 32), .ref (8 + 38), .ref (8 + 39), .ref (8 + 91), .ref (8 + 92), .ref (8 + 97), .ref (8 + 100), .ref (8 + 105)]), .inr (1, 2000, .inl (fun _ => 0)), .inl (7, [.int (nI 0), .int (nI 0), .ref (8 + 3), .int (nI 1), .int (nI 0), .ref (8 + 4), .ref (8 + 5), .ref (8 + 6), .ref (8 + 7), .ref (8 + 8), .ref (8 + 9), .ref (8 + 15), .ref (8 + 16), .int (nI 0), .int (nI 5), .int (nI 0)]), .inr (0, 32, .inl (fun _ => 0)), .inr (0, 4, .inl (fun _ => 0)), .inr (0, 25, .inl (fun _ => 0)), .inr (0, 25, .inl (fun _ => 0)), .inr (0, 25, .inl (fun _ => 0)), .inr (0, 25, .inl (fun _ => 0)), .inl (1, [.ref (8 + 10), .int (nI 0), .ref (8 + 11), .int (nI 0), .ref (8 + 12), .int (nI 0), .ref (8 + 13), .ref (8 + 14)]), .inr (0, 400, .inl (fun _ => 0)), .inr (0, 3, .inl (fun _ => 0)), .inr (0, 32, .inl (fun _ => 0)), .inr (0, 7, .inl (fun _ => 0)), .inr (0, 32, .inl (fun _ => 0)), .inr (0, 3, .inl (fun _ => 0)), .inr (0, 3, .inl (fun _ => 0)), .inl (7, [.int (nI 0), .int (nI 0), .ref (8 + 18), .int (nI 1), .int (nI 0), .ref (8 + 19), .ref (8 + 20), .ref (8 + 21), .ref (8 + 22), .ref (8 + 23), .ref (8 + 24), .ref (8 + 30), .ref (8 + 31), .int (nI 0), .int (nI 5), .int (nI 0)]), .inr (0, 32, .inl (fun _ => 0)), .inr (0, 4, .inl (fun _ => 0)), .inr (0, 25, .inl (fun _ => 0)), .inr (0, 25, .inl (fun _ => 0)), .inr (0, 25, .inl (fun _ => 0)), .inr (0, 25, .inl (fun _ => 0)), .inl (1, [.ref (8 + 25), .int (nI 0), .ref (8 + 26), .int (nI 0), .ref (8 + 27), .int (nI 0), .ref (8 + 28), .ref (8 + 29)]), .inr (0, 400, .inl (fun _ => 0)), .inr (0, 3, .inl (fun _ => 0)), .inr (0, 32, .inl (fun _ => 0)), .inr (0, 7, .inl (fun _ => 0)), .inr (0, 32, .inl (fun _ => 0)), .inr (0, 3, .inl (fun _ => 0)), .inr (0, 3, .inl (fun _ => 0)), .inl (4, [.ref (8 + 34), .ref (8 + 17), .int (nI 0), .int (nI 0), .int (nI 0), .int (nI 0), .int (nI 0), .ref (8 + 33), .int (nI 0), .int (-1), .int (nI 0), .int (-1)]), .inr (3, 4, .inr (.inl (fun _ => 0))), .inl (9, [.ref (8 + 35), .ref (8 + 36), .ref (8 + 37), .ref (8 + 1), .int (nI 0), .int (nI 0), .int (nI 0), .int (nI 0)]), .inr (0, 401, .inl (fun _ => 0)), .inr (0, 401, .inl (fun _ => 0)), .inr (0, 401, .inl (fun _ => 0)), .inl (6, [.int (nI 0), .int (nI 0), .int (nI 0), .int (nI 0), .int (nI 0), .int (nI 0), .int (nI 0), .int (nI 0)]), .inl (2, [.ref (8 + 40), .int (nI 0), .int (nI 0)]), ringC (8 + 39) 50, .inl (6, [.int (nI 0), .int (nI 0), .int (nI 0), .int (nI 0), .int (nI 0), .int (nI 0), .int (nI 0), .int (nI 0)]), .inl (6, [.int (nI 0), .int (nI 0), .int (nI 0), .int (nI 0), .int (nI 0), .int (nI 0), .int (nI 0), .int (nI 0)]), .inl (6, [.int (nI 0), .int (nI 0), .int (nI 0), .int (nI 0), .int (nI 0), .int (nI 0), .int (nI 0), .int (nI 0)]), .inl (6, [.int (nI 0), .int (nI 0), .int (nI 0), .int (nI 0), .int (nI 0), .int (nI 0), .int (nI 0), .int (nI 0)]), .inl (6, [.int (nI 0), .int (nI 0), .int (nI 0), .int (nI 0), .int (nI 0), .int (nI 0), .int (nI 0), .int (nI 0)]), .inl (6, [.int (nI 0), .int (nI 0), .int (nI 0), .int (nI 0), .int (nI 0), .int (nI 0), .int (nI 0), .int (nI 0)]), .inl (6, [.int (nI 0), .int (nI 0), .int (nI 0), .int (nI 0), .int (nI 0), .int (nI 0), .int (nI 0), .int (nI 0)]), .inl (6, [.int (nI 0), .int (nI 0), .int (nI 0), .int (nI 0), .int (nI 0), .int (nI 0), .int (nI 0), .int (nI 0)]), .inl (6, [.int (nI 0), .int (nI 0), .int (nI 0), .int (nI 0), .int (nI 0), .int (nI 0), .int (nI 0), .int (nI 0)]), .inl (6, [.int (nI 0), .int (nI 0), .int (nI 0), .int (nI 0), .int (nI 0), .int (nI 0), .int (nI 0), .int (nI 0)]), .inl (6, [.int (nI 0), .int (nI 0), .int (nI 0), .int (nI 0), .int (nI 0), .int (nI 0), .int (nI 0), .int (nI 0)]), .inl (6, [.int (nI 0), .int (nI 0), .int (nI 0), .int (nI 0), .int (nI 0), .int (nI 0), .int (nI 0), .int (nI 0)]), .inl (6, [.int (nI 0), .int (nI 0), .int (nI 0), .int (nI 0), .int (nI 0), .int (nI 0), .int (nI 0), .int (nI 0)]), .inl (6, [.int (nI 0), .int (nI 0), .int (nI 0), .int (nI 0), .int (nI 0), .int (nI 0), .int (nI 0), .int (nI 0)]), .inl (6, [.int (nI 0), .int (nI 0), .int (nI 0), .int (nI 0), .int (nI 0), .int (nI 0), .int (nI 0), .int (nI 0)]), .inl (6, [.int (nI 0), .int (nI 0), .int (nI 0), .int (nI 0), .int (nI 0), .int (nI 0), .int (nI 0), .int (nI 0)]), .inl (6, [.int (nI 0), .int (nI 0), .int (nI 0), .int (nI 0), .int (nI 0), .int (nI 0), .int (nI 0), .int (nI 0)]), .inl (6, [.int (nI 0), .int (nI 0), .int (nI 0), .int (nI 0), .int (nI 0), .int (nI 0), .int (nI 0), .int (nI 0)]), .inl (6, [.int (nI 0), .int (nI 0), .int (nI 0), .int (nI 0), .int (nI 0), .int (nI 0), .int (nI 0), .int (nI 0)]), .inl (6, [.int (nI 0), .int (nI 0), .int (nI 0), .int (nI 0), .int (nI 0), .int (nI 0), .int (nI 0), .int (nI 0)]), .inl (6, [.int (nI 0), .int (nI 0), .int (nI 0), .int (nI 0), .int (nI 0), .int (nI 0), .int (nI 0), .int (nI 0)]), .inl (6, [.int (nI 0), .int (nI 0), .int (nI 0), .int (nI 0), .int (nI 0), .int (nI 0), .int (nI 0), .int (nI 0)]), .inl (6, [.int (nI 0), .int (nI 0), .int (nI 0), .int (nI 0), .int (nI 0), .int (nI 0), .int (nI 0), .int (nI 0)]), .inl (6, [.int (nI 0), .int (nI 0), .int (nI 0), .int (nI 0), .int (nI 0), .int (nI 0), .int (nI 0), .int (nI 0)]), .inl (6, [.int (nI 0), .int (nI 0), .int (nI 0), .int (nI 0), .int (nI 0), .int (nI 0), .int (nI 0), .int (nI 0)]), .inl (6, [.int (nI 0), .int (nI 0), .int (nI 0), .int (nI 0), .int (nI 0), .int (nI 0), .int (nI 0), .int (nI 0)]), .inl (6, [.int (nI 0), .int (nI 0), .int (nI 0), .int (nI 0), .int (nI 0), .int (nI 0), .int (nI 0), .int (nI 0)]), .inl (6, [.int (nI 0), .int (nI 0), .int (nI 0), .int (nI 0), .int (nI 0), .int (nI 0), .int (nI 0), .int (nI 0)]), .inl (6, [.int (nI 0), .int (nI 0), .int (nI 0), .int (nI 0), .int (nI 0), .int (nI 0), .int (nI 0), .int (nI 0)]), .inl (6, [.int (nI 0), .int (nI 0), .int (nI 0), .int (nI 0), .int (nI 0), .int (nI 0), .int (nI 0), .int (nI 0)]), .inl (6, [.int (nI 0), .int (nI 0), .int (nI 0), .int (nI 0), .int (nI 0), .int (nI 0), .int (nI 0), .int (nI 0)]), .inl (6, [.int (nI 0), .int (nI 0), .int (nI 0), .int (nI 0), .int (nI 0), .int (nI 0), .int (nI 0), .int (nI 0)]), .inl (6, [.int (nI 0), .int (nI 0), .int (nI 0), .int (nI 0), .int (nI 0), .int (nI 0), .int (nI 0), .int (nI 0)]), .inl (6, [.int (nI 0), .int (nI 0), .int (nI 0), .int (nI 0), .int (nI 0), .int (nI 0), .int (nI 0), .int (nI 0)]), .inl (6, [.int (nI 0), .int (nI 0), .int (nI 0), .int (nI 0), .int (nI 0), .int (nI 0), .int (nI 0), .int (nI 0)]), .inl (6, [.int (nI 0), .int (nI 0), .int (nI 0), .int (nI 0), .int (nI 0), .int (nI 0), .int (nI 0), .int (nI 0)]), .inl (6, [.int (nI 0), .int (nI 0), .int (nI 0), .int (nI 0), .int (nI 0), .int (nI 0), .int (nI 0), .int (nI 0)]), .inl (6, [.int (nI 0), .int (nI 0), .int (nI 0), .int (nI 0), .int (nI 0), .int (nI 0), .int (nI 0), .int (nI 0)]), .inl (6, [.int (nI 0), .int (nI 0), .int (nI 0), .int (nI 0), .int (nI 0), .int (nI 0), .int (nI 0), .int (nI 0)]), .inl (6, [.int (nI 0), .int (nI 0), .int (nI 0), .int (nI 0), .int (nI 0), .int (nI 0), .int (nI 0), .int (nI 0)]), .inl (6, [.int (nI 0), .int (nI 0), .int (nI 0), .int (nI 0), .int (nI 0), .int (nI 0), .int (nI 0), .int (nI 0)]), .inl (6, [.int (nI 0), .int (nI 0), .int (nI 0), .int (nI 0), .int (nI 0), .int (nI 0), .int (nI 0), .int (nI 0)]), .inl (6, [.int (nI 0), .int (nI 0), .int (nI 0), .int (nI 0), .int (nI 0), .int (nI 0), .int (nI 0), .int (nI 0)]), .inl (6, [.int (nI 0), .int (nI 0), .int (nI 0), .int (nI 0), .int (nI 0), .int (nI 0), .int (nI 0), .int (nI 0)]), .inl (6, [.int (nI 0), .int (nI 0), .int (nI 0), .int (nI 0), .int (nI 0), .int (nI 0), .int (nI 0), .int (nI 0)]), .inl (6, [.int (nI 0), .int (nI 0), .int (nI 0), .int (nI 0), .int (nI 0), .int (nI 0), .int (nI 0), .int (nI 0)]), .inl (6, [.int (nI 0), .int (nI 0), .int (nI 0), .int (nI 0), .int (nI 0), .int (nI 0), .int (nI 0), .int (nI 0)]), .inl (6, [.int (nI 0), .int (nI 0), .int (nI 0), .int (nI 0), .int (nI 0), .int (nI 0), .int (nI 0), .int (nI 0)]), .inl (6, [.int (nI 0), .int (nI 0), .int (nI 0), .int (nI 0), .int (nI 0), .int (nI 0), .int (nI 0), .int (nI 0)]), .inl (6, [.int (nI 0), .int (nI 0), .int (nI 0), .int (nI 0), .int (nI 0), .int (nI 0), .int (nI 0), .int (nI 0)]), .inr (4, 3, .inr (.inr n_slots)), .inl (8, [.ref (8 + 2), .ref (8 + 93), .ref (8 + 94), .ref (8 + 95), .ref (8 + 96), .int (nI 0), .int (nI 0)]), .inr (5, 16, .inr (.inr (va_up (fun _ => none) 0 (some (8 + 95))))), .inr (0, 16, .inl (fun _ => 0)), .inr (0, 2400, .inl (fun _ => 0)), .inr (0, 96, .inl (fun _ => 0)), .inl (0, [.ref (8 + 92), .ref (8 + 2), .ref (8 + 98), .ref (8 + 99), .int (nI 0), .int (nI 0), .int (nI 0), .int (-1), .int (-1)]), .inr (0, 384, .inl (fun _ => 0)), .inr (0, 384, .inl (fun _ => 0)), .inl (3, [.ref (8 + 92), .ref (8 + 2), .ref (8 + 101), .ref (8 + 102), .ref (8 + 103), .ref (8 + 104)]), .inr (0, 9312, .inl (fun _ => 0)), .inr (0, 97, .inl (fun _ => 0)), .inr (0, 96, .inl (fun _ => 0)), .inr (0, 96, .inl (fun _ => 0)), .inl (5, [.ref (8 + 106), .int (nI 0), .ref (8 + 107), .int (nI 0), .int (nI 0), .ref (8 + 108), .ref (8 + 109)]), .inr (0, 5, .inl (fun _ => 0)), .inr (0, 180, .inl (fun _ => 0)), .inr (0, 3, .inl (fun _ => 0)), .inr (0, 3, .inl (fun _ => 0)), .inl (6, [.int (nI 0), .int (nI 0), .int (nI 0), .int (nI 0), .int (nI 0), .int (nI 0), .int (nI 0), .int (nI 0)]), .inl (6, [.int (nI 0), .int (nI 0), .int (nI 0), .int (nI 0), .int (nI 0), .int (nI 0), .int (nI 0), .int (nI 0)]), .inl (6, [.int (nI 0), .int (nI 0), .int (nI 0), .int (nI 0), .int (nI 0), .int (nI 0), .int (nI 0), .int (nI 0)])]
set_option maxRecDepth 8000 in
theorem i_cl {g : am_H} (h : g.2.2 103 = .inr (0, 2400, .inl (fun _ => 0))) : i_c = cl g i_T i_u i_T i_u i_K i_rf := by
  unfold cl
  rw [h]
  rfl
theorem i_on {f : Nat → am_C} {m : Nat} : onC (bh f m i_c) i_T i_u i_T i_u i_K i_rf := by
  have h103 : (bh f m i_c).2.2 103 = .inr (0, 2400, .inl (fun _ => 0)) := rfl
  have hl : i_c.length = 113 := rfl
  refine hH_ext rfl rfl (fun q => ?_)
  by_cases h8 : q < 8
  · rw [ch_lo h8]
  · by_cases h1 : q < 121
    · rw [ch_mi (by omega) h1, ← i_cl h103]
      show (if q < 8 then f q else am_nth i_c (q - 8) (f q)) = _
      rw [if_neg h8]
      exact am_nth_d _ _ _ _ (by omega)
    · rw [ch_hi (by omega)]
section C2
variable {f : Nat → am_C} {m : Nat} {Q : Option Value → am_H → Prop} {P Z : Nat → Nat → Nat} {TD : Nat → Nat} {tp : Nat → Int32}
set_option maxRecDepth 8000 in
theorem c_X10_init (q : ∀ h' T T1 u0 u1 K rf, DSt T → onC h' T u0 T1 u1 K rf → h'.1 = 121 → h'.2.1 = m + 18112 → (∀ p, p < 8 ∨ 121 ≤ p → h'.2.2 p = f p) → (∀ g', 171 ≤ g'.1 → am_six g' → g'.2.2 103 = h'.2.2 103 → CS g' T u0 T1 u1 K rf 10 T (fun _ => []) (bgS T) 0 P 0 TD (fun _ => false) Z 0 tp (-1) 0) → nn K.2.2.2.2 = 15 → Q none h') : AC am_P 5 107 128 [.ref 8] (bh f m [.inl (10, [.null, .int 0, .int 0, .null, .null, .null, .null, .null, .null, .null, .null, .null, .null])]) Q := by
  refine AC.of (ls := [some (.ref 8), none]) rfl ?_
  refine l_X10a (b := 8) (l := []) rfl (fun m' hm' => ?_)
  rw [i_sl]
  show AW am_P 5 107 128 188 [some (.ref 8), some (.int (nI 3))] [] (bh f m' i_c) Q
  refine (congrArg (fun w => AW am_P 5 107 128 188 [some (.ref 8), some (.int (nI 3))] [] w Q) i_on).mpr ?_
  refine aw rfl rfl ?_
  refine aw_getfE rfl cg_8 rfl (congrArg Value.ref (show i_rf 0 = 10 from rfl)) ?_
  refine aw_cv (d1 := 3) (L1 := 63) rfl rfl cg_10 rfl rfl (by decide) (by decide) (Nat.le_of_ble_eq_true rfl) (c_X7_layAhead (z := true) (T := i_T) (u := i_u) (X := (i_T, i_u)) rfl rfl (fun T hT => ?_))
  show AW am_P 5 107 128 195 [some (.ref 8), some (.int (nI 3))] [] (ch (bh f m' i_c) T i_u i_T i_u i_K i_rf) Q
  refine aw rfl rfl ?_
  refine aw_cv (d1 := 4) (L1 := 86) rfl rfl cg_8 rfl rfl (by decide) (by decide) (Nat.le_of_ble_eq_true rfl) (c_X10_begin (p := 10) (T := T) (Or.inl ⟨rfl, rfl⟩) hT.gs rfl (fun K' hB => ?_))
  obtain ⟨q1, q2, q3, q4, q5, q6, q7, q8, q9, r1, r2, r3⟩ := hB
  have k4 : K'.2.2.2.2 = va_up (fun _ => none) 0 (some 103) := congrArg (fun w : (Nat → Int64) × (Nat → Option Nat) => w.2) r3
  refine aw_vret rfl rfl (q (ch (bh f m' i_c) T i_u i_T i_u K' (rf3 i_rf 10)) T i_T i_u i_u K' (rf3 i_rf 10) hT onC_ch rfl hm' (fun p hp => ?_) (fun g' hg1 hg6 hg3 => ?_) (by rw [k4]; rfl))
  · rcases hp with hp | hp
    · rw [ch_lo hp]
      exact if_pos hp
    · rw [ch_hi hp]
      show (if p < 8 then f p else am_nth i_c (p - 8) (f p)) = f p
      rw [if_neg (by omega), am_nth_o _ _ _ (by show 113 ≤ p - 8; omega)]
  · obtain ⟨s1, s2, s3, s4, s5⟩ := bg_sg hT.gs
    have h8 := hT.1.2.2.2.2.2.2.2.2
    refine ⟨⟨Or.inl ⟨rfl, rfl⟩, hT.gs, hT.lw.1, hT.lw.2, by omega, rfl, rfl, rfl, rfl, hg6, Or.inl rfl, Or.inr rfl, by decide⟩, rfl, q6, ⟨hg1, fun a ha p hp => ?_, fun a b p ha hb hp hp2 => ?_, fun a ha _ => q7 a ha⟩, Or.inl q8, ⟨q1, ⟨Nat.zero_le _, q3, 0, by decide, q2, fun i hi => absurd hi (Nat.not_lt_zero i)⟩, fun s hs => ⟨q5 s hs, fun w => absurd w Bool.false_ne_true⟩, ⟨Nat.zero_le _, q4, fun i hi => absurd hi (Nat.not_lt_zero i)⟩, ⟨Nat.zero_le _, q9, fun i hi => absurd hi (Nat.not_lt_zero i)⟩, r1⟩, ⟨s1, by omega, by omega, by omega⟩, fun i hi => absurd hi (Nat.not_lt_zero i), fun s _ w => absurd w Bool.false_ne_true, by decide⟩
    · rw [k4] at hp
      have e0 : a = 0 := by
        refine Decidable.of_not_not (fun w => ?_)
        rw [vu_ot w] at hp
        cases hp
      subst e0
      rw [vu_at] at hp
      cases hp
      refine ⟨Or.inl rfl, by omega, fun _ => 0, hg3.trans rfl, fun s hs hs2 => ?_⟩
      rw [q7 0 (by decide)] at hs2
      have e9 := congrArg Int32.toInt hs2
      rw [nI_toInt hs, show (-1 : Int32).toInt = -1 by decide] at e9
      omega
    · rw [k4] at hp hp2
      have e0 : ∀ a, va_up (fun _ => none) 0 (some 103) a = some p → a = 0 := fun a hp => by
        refine Decidable.of_not_not (fun w => ?_)
        rw [vu_ot w] at hp
        cases hp
      rw [e0 a hp, e0 b hp2]
end C2
