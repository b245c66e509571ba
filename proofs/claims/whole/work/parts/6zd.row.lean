/-! ===== the class's reader: layRow, takeRow ===== -/
/-- Strings lie where they lie -/
def STr (g : am_H) : Prop := ∀ q, 2 ≤ q → q < 8 → g.2.2 q = am_im 0 (fun _ => 0) q
def csS (j : Nat) : Nat := [116, 99, 115, 112, 103, 119, 104].getD j 0
def csG (j : Nat) : Nat := [59, 61, 43, 45, 42, 47, 60, 40, 41].getD j 0
def soL (c : Nat) : Int32 := if c = 20 then nI 0 else if c = 3 then nI 1 else if c = 19 then nI 2 else if c = 16 then nI 3 else if c = 7 then nI 4 else if c = 23 then nI 5 else if c = 8 then nI 6 else -1
def okR (l : List Nat) : Bool := l.all (fun c => decide (¬ soL c = -1))
theorem csS_i : ∀ j, j < 7 → ∀ c, c < 27 → (csS j = 96 + c → soL c = nI j) := by decide +kernel
theorem csS_n : ∀ c, c < 27 → ((∀ i, i < 7 → ¬ csS i = 96 + c) → soL c = -1) := by decide +kernel
theorem gd_n (l : List Nat) (j : Nat) : (l.map nI).getD j 0 = nI (l.getD j 0) := by
  rw [List.getD_eq_getElem?_getD, List.getD_eq_getElem?_getD, List.getElem?_map]
  cases l[j]? <;> rfl
theorem okR_s {l : List Nat} {a : Nat} (ha : a < l.length) : okR (l.take (a + 1)) = (okR (l.take a) && decide (¬ soL (l.getD a 0) = -1)) := by
  unfold okR
  rw [List.take_add_one, List.all_append, List.getElem?_eq_getElem ha, List.getD_eq_getElem?_getD, List.getElem?_eq_getElem ha]
  simp
theorem soL_m (c : Nat) : soL c < 0 ↔ soL c = -1 := by
  unfold soL
  repeat' split
  all_goals decide
theorem RS.cg {Y : Tk} {K : Ck} {s s' : Ps} (h : RS Y K s) (h1 : s'.1 ≤ 400) (h2 : s'.2.1 = s.2.1) (h3 : s.2.1.1 = 0 → s = s') : RS Y K s' := by
  by_cases hf : s.2.1.1 = 0
  · rw [← h3 hf]; exact h
  · obtain ⟨a1, a2, a3, a4, a5, a6⟩ := h
    exact ⟨a1, h1, by rw [h2]; exact a3, by rw [h2]; exact a4, fun w => absurd (by rw [h2] at w; exact w) hf, fun _ => by rw [h2]; exact a6 hf⟩
theorem go_wr {Y : Tk} {s : Ps} {c p : Nat} : (go Y (wr c p s)).2.1 = (wr c p (go Y s)).2.1 ∧ ((go Y (wr c p s)).2.1.1 = 0 → go Y (wr c p s) = wr c p (go Y s)) := by
  by_cases hf : s.2.1.1 = 0
  · have hw := @wr_0 c p s
    by_cases h4 : s.1 = 400
    · have e1 : go Y s = (s.1, (2, Y.2.1 s.1), s.2.2) := by unfold go; rw [if_pos hf, if_pos h4]
      have e2 : go Y (wr c p s) = (s.1, (2, Y.2.1 s.1), (wr c p s).2.2) := by unfold go; rw [hw.1, hw.2, if_pos hf, if_pos h4]
      rw [e1, e2, wr_f (s := (s.1, (2, Y.2.1 s.1), s.2.2)) (by show ¬ 2 = 0; decide)]
      exact ⟨rfl, fun w => absurd w (by show ¬ 2 = 0; decide)⟩
    · have e1 : go Y s = (s.1 + 1, s.2) := by unfold go; rw [if_pos hf, if_neg h4]
      have e2 : go Y (wr c p s) = (s.1 + 1, (wr c p s).2) := by unfold go; rw [hw.1, hw.2, if_pos hf, if_neg h4]
      have e3 : wr c p (s.1 + 1, s.2) = (s.1 + 1, (wr c p s).2) := by
        unfold wr
        dsimp only
        split <;> rfl
      rw [e1, e2, e3]
      exact ⟨rfl, fun _ => rfl⟩
  · rw [wr_f hf, go_f hf, wr_f hf]
    exact ⟨rfl, fun _ => rfl⟩
/-- a row that is told: w, how long it should be -/
def rwX (w : Nat) (l : List Nat) : Bool := decide (¬ l.length = w) || !okR l
def rwW (r w0 : Nat) (l : List Nat) : Nat := if r = 0 then l.length else w0
def rwS (Y : Tk) (r w0 : Nat) (s : Ps) : Ps := if rwX (rwW r w0 (Y.2.2.2 (go Y s).1)) (Y.2.2.2 (go Y s).1) = true then wr 6 (Y.2.1 (go Y s).1) (mu Y 1 (go Y s)) else mu Y 1 (go Y s)
section C1
variable {z : Bool} {g : am_H} {T : Sd} {u : Ua} {X : Sd × Ua} {K : Ck} {rf : Nat → Nat}
variable {Y : Tk} {s : Ps} {n : Nat}
theorem sq_4 (h : STr g) : SQ (cz z g T u X K rf) 4 7 7 csS := by
  refine ⟨?_, ?_, by decide, by decide, fun j => ?_⟩
  · have h4 := h 4 (by decide) (by decide)
    cases z <;> exact h4
  · have h7 := h 7 (by decide) (by decide)
    have e : (fun j => (am_by.getD 2 []).getD j 0) = fun j => nI (csS j) := funext fun j => gd_n [116, 99, 115, 112, 103, 119, 104] j
    have h7 : g.2.2 7 = .inr (1, 7, .inl (fun j => nI (csS j))) := by rw [← e]; exact h7
    cases z <;> exact h7
  · have : ∀ i, i < 7 → csS i < 128 := by decide
    by_cases hj : j < 7
    · exact this j hj
    · unfold csS; rw [List.getD_eq_getElem?_getD, List.getElem?_eq_none (by show 7 ≤ j; omega)]; decide
theorem sq_3 (h : STr g) : SQ (cz z g T u X K rf) 3 6 9 csG := by
  refine ⟨?_, ?_, by decide, by decide, fun j => ?_⟩
  · have h4 := h 3 (by decide) (by decide)
    cases z <;> exact h4
  · have h7 := h 6 (by decide) (by decide)
    have e : (fun j => (am_by.getD 1 []).getD j 0) = fun j => nI (csG j) := funext fun j => gd_n [59, 61, 43, 45, 42, 47, 60, 40, 41] j
    have h7 : g.2.2 6 = .inr (1, 9, .inl (fun j => nI (csG j))) := by rw [← e]; exact h7
    cases z <;> exact h7
  · have : ∀ i, i < 9 → csG i < 128 := by decide
    by_cases hj : j < 9
    · exact this j hj
    · unfold csG; rw [List.getD_eq_getElem?_getD, List.getElem?_eq_none (by show 9 ≤ j; omega)]; decide
theorem c_X4_layRow {Q : Option Value → am_H → Prop} (hg : STr g) (hz : rf 2 = zq z) (hN : TN Y K n) {i : Nat} (hi : i ≤ 400) (h1 : Y.1 i = 1) (h4 : K.1 4 = nI (Y.2.1 i)) (h5 : K.1 5 = nI (Y.2.2.2 i).length) (hl8 : (Y.2.2.2 i).length ≤ 8) (hr : T.1 1 < 4) (q : ∀ f, (∀ a, a < (Y.2.2.2 i).length → f (T.1 1 * 8 + a) = soL ((Y.2.2.2 i).getD a 0)) → (∀ a, ¬ (T.1 1 * 8 ≤ a ∧ a < T.1 1 * 8 + (Y.2.2.2 i).length) → f a = T.2 0 a) → Q (some (.int (bI (okR (Y.2.2.2 i))))) (cz z g (T.1, va_up T.2 0 f) u X K rf)) : AC am_P 4 91 48 [.ref 40] (cz z g T u X K rf) Q := by
  refine AC.of (ls := [_, _, _, _]) rfl ?_
  have hN0 := hN
  obtain ⟨h12, hn2, hN⟩ := hN
  obtain ⟨hp, hl, hb⟩ := hN i hi h1
  refine aw_c (v := nI 1) rfl (by decide) ?_
  refine aw_ist (ls' := [_, _, _, _]) rfl rfl ?_
  refine aw_c (v := nI 0) rfl (by decide) ?_
  refine aw_ist (ls' := [_, _, _, _]) rfl rfl ?_
  refine (show AW am_P 4 91 48 4 [some (.ref 40), some (.int (bI true)), some (.int (nI 0)), none] [] (cz z g (T.1, va_up T.2 0 (T.2 0)) u X K rf) Q → _ from fun w => by rw [va_self0] at w; exact w) ?_
  refine aw_loop (α := (Nat → Int32) × Bool × Option Value) (ll := fun a y => [some (.ref 40), some (.int (bI y.2.1)), some (.int (nI a)), y.2.2]) (hh := fun a y => (cz z g (T.1, va_up T.2 0 y.1) u X K rf)) (I := fun a y => y.2.1 = okR ((Y.2.2.2 i).take a) ∧ (∀ a9, a9 < a → y.1 (T.1 1 * 8 + a9) = soL ((Y.2.2.2 i).getD a9 0)) ∧ (∀ a9, ¬ (T.1 1 * 8 ≤ a9 ∧ a9 < T.1 1 * 8 + a) → y.1 a9 = T.2 0 a9)) (N := (Y.2.2.2 i).length) (fun a y ha hI ih => ?_) (fun y hI => ?_) 0 (T.2 0, true, none) (Nat.zero_le _) ⟨rfl, fun a9 h9 => absurd h9 (Nat.not_lt_zero _), fun _ _ => rfl⟩
  · skip
    obtain ⟨f, b, v3⟩ := y
    obtain ⟨i1, i2, i3⟩ := hI
    dsimp only at i1 i2 i3 ⊢
    have hlt := lt_at hl ha
    refine aw rfl rfl ?_
    refine aw rfl rfl ?_
    refine aw_getfE rfl zg_40 rfl (congrArg Value.int h5) ?_
    refine aw_igen rfl (fun c9 => by omega) (fun c9 => ?_)
    refine aw rfl rfl ?_
    refine aw rfl rfl ?_
    refine aw_getf rfl zg_40 rfl ?_
    refine aw rfl rfl ?_
    refine aw_getfE rfl zg_40 rfl (congrArg Value.int h4) ?_
    refine aw rfl rfl ?_
    refine aw_addn rfl ?_
    refine aw_cv (d1 := 0) (L1 := 0) rfl rfl zg_42 rfl rfl (by decide) (by decide) (Nat.le_of_ble_eq_true rfl) (c_X9_letterAt (j := a) hN0 hi h1 ha ?_)
    refine aw_cv (d1 := 3) (L1 := 70) rfl rfl (sq_4 hg).1 rfl rfl (by decide) (by decide) (Nat.le_of_ble_eq_true rfl) (c_X15_indexOf_0 (sq_4 hg) (by decide) (by omega) (fun j j1 j2 j3 => ?_) (fun j0 => ?_))
    · have hso := csS_i j j1 _ (by omega) j2
      have hv : ¬ soL ((Y.2.2.2 i).getD a 0) = -1 := by rw [hso]; exact n_m1 (by omega)
      refine aw_ist (ls' := [_, _, _, _]) rfl rfl ?_
      refine aw rfl rfl ?_
      refine aw_eq rfl (fun c32 => ?_) (fun c32 => ?_)
      · refine aw_c (v := nI 0) rfl (by decide) ?_
        refine aw_ist (ls' := [_, _, _, _]) rfl rfl ?_
        refine aw rfl rfl ?_
        refine aw_getfE rfl zg_40 rfl (congrArg Value.ref hz) ?_
        refine aw rfl rfl ?_
        refine aw rfl rfl ?_
        refine aw_getfE rfl zg_40 rfl (congrArg Value.ref hz) ?_
        refine aw_getf rfl zs_0 rfl ?_
        refine aw rfl rfl ?_
        refine aw_cv (d1 := 0) (L1 := 0) rfl rfl zs_0 rfl rfl (by decide) (by decide) (Nat.le_of_ble_eq_true rfl) (c_X7_setSort (by omega) hr ?_)
        refine aw_incn (c := 1) (ls' := [_, _, _, _]) rfl rfl (by decide) rfl ?_
        refine aw rfl rfl ?_
        have ih := ih (upd f (T.1 1 * 8 + a) (nI j), false, some (.int (nI j))) ⟨?_, fun a9 h9 => ?_, fun a9 h9 => ?_⟩
        · have e9 : va_up (va_up T.2 0 f) 0 (upd f (T.1 1 * 8 + a) (nI j)) = va_up T.2 0 (upd f (T.1 1 * 8 + a) (nI j)) := by
            funext j9
            by_cases ej : j9 = 0
            · rw [ej, vu_at, vu_at]
            · rw [vu_ot ej, vu_ot ej, vu_ot ej]
          rw [← e9] at ih
          exact ih
        · rw [okR_s ha, ← i1, hso]
          rw [decide_eq_true (show ¬ nI j = -1 from n_m1 (by omega))]; cases b <;> first | rfl | exact absurd c32 (by decide)
        · dsimp only
          by_cases ea : a9 = a
          · subst ea; rw [upd_at, hso]
          · rw [upd_ne (by omega)]; exact i2 a9 (by omega)
        · dsimp only
          rw [upd_ne (by omega)]; exact i3 a9 (by omega)
      · refine aw rfl rfl ?_
        refine aw_ltn rfl ?_
        refine aw_c (v := nI 1) rfl (by decide) ?_
        refine aw rfl rfl ?_
        refine aw_ist (ls' := [_, _, _, _]) rfl rfl ?_
        refine aw rfl rfl ?_
        refine aw_getfE rfl zg_40 rfl (congrArg Value.ref hz) ?_
        refine aw rfl rfl ?_
        refine aw rfl rfl ?_
        refine aw_getfE rfl zg_40 rfl (congrArg Value.ref hz) ?_
        refine aw_getf rfl zs_0 rfl ?_
        refine aw rfl rfl ?_
        refine aw_cv (d1 := 0) (L1 := 0) rfl rfl zs_0 rfl rfl (by decide) (by decide) (Nat.le_of_ble_eq_true rfl) (c_X7_setSort (by omega) hr ?_)
        refine aw_incn (c := 1) (ls' := [_, _, _, _]) rfl rfl (by decide) rfl ?_
        refine aw rfl rfl ?_
        have ih := ih (upd f (T.1 1 * 8 + a) (nI j), true, some (.int (nI j))) ⟨?_, fun a9 h9 => ?_, fun a9 h9 => ?_⟩
        · have e9 : va_up (va_up T.2 0 f) 0 (upd f (T.1 1 * 8 + a) (nI j)) = va_up T.2 0 (upd f (T.1 1 * 8 + a) (nI j)) := by
            funext j9
            by_cases ej : j9 = 0
            · rw [ej, vu_at, vu_at]
            · rw [vu_ot ej, vu_ot ej, vu_ot ej]
          rw [← e9] at ih
          exact ih
        · rw [okR_s ha, ← i1, hso]
          rw [decide_eq_true (show ¬ nI j = -1 from n_m1 (by omega))]; cases b <;> first | rfl | exact absurd c32 (by decide)
        · dsimp only
          by_cases ea : a9 = a
          · subst ea; rw [upd_at, hso]
          · rw [upd_ne (by omega)]; exact i2 a9 (by omega)
        · dsimp only
          rw [upd_ne (by omega)]; exact i3 a9 (by omega)
    · have hso := csS_n _ (by omega) j0
      refine aw_ist (ls' := [_, _, _, _]) rfl rfl ?_
      refine aw rfl rfl ?_
      refine aw_eq rfl (fun c32 => ?_) (fun c32 => ?_)
      · refine aw_c (v := nI 0) rfl (by decide) ?_
        refine aw_ist (ls' := [_, _, _, _]) rfl rfl ?_
        refine aw rfl rfl ?_
        refine aw_getfE rfl zg_40 rfl (congrArg Value.ref hz) ?_
        refine aw rfl rfl ?_
        refine aw rfl rfl ?_
        refine aw_getfE rfl zg_40 rfl (congrArg Value.ref hz) ?_
        refine aw_getf rfl zs_0 rfl ?_
        refine aw rfl rfl ?_
        refine aw_cv (d1 := 0) (L1 := 0) rfl rfl zs_0 rfl rfl (by decide) (by decide) (Nat.le_of_ble_eq_true rfl) (c_X7_setSort (by omega) hr ?_)
        refine aw_incn (c := 1) (ls' := [_, _, _, _]) rfl rfl (by decide) rfl ?_
        refine aw rfl rfl ?_
        have ih := ih (upd f (T.1 1 * 8 + a) (-1), false, some (.int (-1))) ⟨?_, fun a9 h9 => ?_, fun a9 h9 => ?_⟩
        · have e9 : va_up (va_up T.2 0 f) 0 (upd f (T.1 1 * 8 + a) (-1)) = va_up T.2 0 (upd f (T.1 1 * 8 + a) (-1)) := by
            funext j9
            by_cases ej : j9 = 0
            · rw [ej, vu_at, vu_at]
            · rw [vu_ot ej, vu_ot ej, vu_ot ej]
          rw [← e9] at ih
          exact ih
        · rw [okR_s ha, ← i1, hso]
          rw [decide_eq_false (fun w => w rfl)]; cases b <;> rfl
        · dsimp only
          by_cases ea : a9 = a
          · subst ea; rw [upd_at, hso]
          · rw [upd_ne (by omega)]; exact i2 a9 (by omega)
        · dsimp only
          rw [upd_ne (by omega)]; exact i3 a9 (by omega)
      · refine aw rfl rfl ?_
        refine aw_lt rfl (fun _ => ?_) (fun c => absurd (by decide) c)
        refine aw_c (v := nI 0) rfl (by decide) ?_
        refine aw_ist (ls' := [_, _, _, _]) rfl rfl ?_
        refine aw rfl rfl ?_
        refine aw_getfE rfl zg_40 rfl (congrArg Value.ref hz) ?_
        refine aw rfl rfl ?_
        refine aw rfl rfl ?_
        refine aw_getfE rfl zg_40 rfl (congrArg Value.ref hz) ?_
        refine aw_getf rfl zs_0 rfl ?_
        refine aw rfl rfl ?_
        refine aw_cv (d1 := 0) (L1 := 0) rfl rfl zs_0 rfl rfl (by decide) (by decide) (Nat.le_of_ble_eq_true rfl) (c_X7_setSort (by omega) hr ?_)
        refine aw_incn (c := 1) (ls' := [_, _, _, _]) rfl rfl (by decide) rfl ?_
        refine aw rfl rfl ?_
        have ih := ih (upd f (T.1 1 * 8 + a) (-1), false, some (.int (-1))) ⟨?_, fun a9 h9 => ?_, fun a9 h9 => ?_⟩
        · have e9 : va_up (va_up T.2 0 f) 0 (upd f (T.1 1 * 8 + a) (-1)) = va_up T.2 0 (upd f (T.1 1 * 8 + a) (-1)) := by
            funext j9
            by_cases ej : j9 = 0
            · rw [ej, vu_at, vu_at]
            · rw [vu_ot ej, vu_ot ej, vu_ot ej]
          rw [← e9] at ih
          exact ih
        · rw [okR_s ha, ← i1, hso]
          rw [decide_eq_false (fun w => w rfl)]; cases b <;> rfl
        · dsimp only
          by_cases ea : a9 = a
          · subst ea; rw [upd_at, hso]
          · rw [upd_ne (by omega)]; exact i2 a9 (by omega)
        · dsimp only
          rw [upd_ne (by omega)]; exact i3 a9 (by omega)
  · skip
    obtain ⟨f, b, v3⟩ := y
    obtain ⟨i1, i2, i3⟩ := hI
    dsimp only at i1 i2 i3 ⊢
    refine aw rfl rfl ?_
    refine aw rfl rfl ?_
    refine aw_getfE rfl zg_40 rfl (congrArg Value.int h5) ?_
    refine aw_igen rfl (fun c9 => ?_) (fun c9 => by omega)
    refine aw rfl rfl ?_
    exact aw_iret rfl (by cases b <;> rfl) (by rw [i1, List.take_length]; exact q f i2 i3)
end C1
