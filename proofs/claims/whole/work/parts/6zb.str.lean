/-! ===== Strings ===== -/
theorem aw_ckn {d L M pc nx b idx x y : Nat} {ls : List (Option Value)} {r : List Value} {h : am_H} {Q : Option Value → am_H → Prop} (hf : am_at (am_P M).2.2.2 pc = some (.invokestatic idx, nx, 994, b)) (hx : x < y) (hy : y < 2147483648) (hd : Nat.ble 2 d = true) (hr : Nat.ble (am_cat r) 8 = true) (hL : Nat.ble 60 L = true) (k : AW am_P d L M nx ls r h Q) : AW am_P d L M pc ls (.int (nI y) :: .int (nI x) :: r) h Q := by
  refine aw hf ?_ k
  show (if nI x < 0 ∨ ¬ nI x < nI y then none else bif Nat.ble 2 d && Nat.ble (am_cat r) 8 && Nat.ble 60 L then some (.inl (nx, ls, r, h)) else none : am_O) = _
  rw [if_neg (fun w => w.elim (nI_pos (by omega)) (fun w => w (nI_lt hx hy))), hd, hr, hL]
  rfl
theorem i2b_n : ∀ c, c < 128 → (nI c).toInt8.toInt32 = nI c := by decide +kernel
theorem i2c_n : ∀ c, c < 128 → ((nI c).toUInt32 % 65536).toInt32 = nI c := by decide +kernel
theorem and255 : ∀ c, c < 128 → nI c &&& nI 255 = nI c := by decide +kernel
theorem rt3 : ∀ c, c < 128 → am_rt 3 (nI c) = true := by decide +kernel
/-- a String's cells: its bytes are n, cc tells them -/
def SQ (h : am_H) (p b n : Nat) (cc : Nat → Nat) : Prop := h.2.2 p = .inl (15, [.ref b, .int 0]) ∧ h.2.2 b = .inr (1, n, .inl (fun j => nI (cc j))) ∧ n < 1000 ∧ nI n >>> (0 &&& 31) = nI n ∧ ∀ j, cc j < 128
section C1
variable {h : am_H} {p b n : Nat} {cc : Nat → Nat}
theorem c_X15_coder {Q : Option Value → am_H → Prop} (hS : SQ h p b n cc) (q : Q (some (.int 0)) h) : AC am_P 0 0 295 [.ref p] h Q := by
  refine AC.of (ls := [_]) rfl ?_
  obtain ⟨h1, h2, hn, hs, hc⟩ := hS
  refine aw rfl rfl ?_
  refine aw_eq rfl (fun c3 => absurd c3 (by decide)) (fun c3 => ?_)
  refine aw rfl rfl ?_
  refine aw_getf rfl h1 rfl ?_
  refine aw rfl rfl ?_
  exact aw_iret rfl rfl q
theorem c_X15_isLatin1 {Q : Option Value → am_H → Prop} (hS : SQ h p b n cc) (q : Q (some (.int (nI 1))) h) : AC am_P 0 0 297 [.ref p] h Q := by
  refine AC.of (ls := [_]) rfl ?_
  obtain ⟨h1, h2, hn, hs, hc⟩ := hS
  refine aw rfl rfl ?_
  refine aw_eq rfl (fun c3 => absurd c3 (by decide)) (fun c3 => ?_)
  refine aw rfl rfl ?_
  refine aw_getf rfl h1 rfl ?_
  refine aw_ne rfl (fun c10 => absurd rfl c10) (fun c10 => ?_)
  refine aw_c (v := nI 1) rfl (by decide) ?_
  refine aw rfl rfl ?_
  exact aw_iret rfl rfl q
theorem c_X15_length {Q : Option Value → am_H → Prop} (hS : SQ h p b n cc) (q : Q (some (.int (nI n))) h) : AC am_P 1 20 294 [.ref p] h Q := by
  refine AC.of (ls := [_]) rfl ?_
  have hS0 := hS
  obtain ⟨h1, h2, hn, hs, hc⟩ := hS
  refine aw rfl rfl ?_
  refine aw_getf rfl h1 rfl ?_
  refine aw_alen rfl h2 rfl ?_
  refine aw rfl rfl ?_
  refine aw_cv (d1 := 0) (L1 := 0) rfl rfl h1 rfl rfl (by decide) (by decide) (Nat.le_of_ble_eq_true rfl) (c_X15_coder hS0 ?_)
  refine aw rfl rfl ?_
  exact aw_iret rfl rfl (by rw [hs]; exact q)
theorem c_X16_charAt {Q : Option Value → am_H → Prop} (hS : SQ h p b n cc) {i : Nat} (hi : i < n) (q : Q (some (.int (nI (cc i)))) h) : AC am_P 2 60 300 [.ref b, .int (nI i)] h Q := by
  refine AC.of (ls := [_, _]) rfl ?_
  obtain ⟨h1, h2, hn, hs, hc⟩ := hS
  refine aw rfl rfl ?_
  refine aw rfl rfl ?_
  refine aw_alen rfl h2 rfl ?_
  refine aw_ckn rfl hi (by omega) rfl rfl rfl ?_
  refine aw rfl rfl ?_
  refine aw rfl rfl ?_
  refine aw_bald rfl h2 rfl (by omega) (by omega) ?_
  refine aw_c (v := nI 255) rfl (by decide) ?_
  refine aw rfl rfl ?_
  refine aw rfl rfl ?_
  exact aw_iret rfl (by rw [and255 _ (hc i), i2c_n _ (hc i)]; exact rt3 _ (hc i)) (by rw [and255 _ (hc i), i2c_n _ (hc i)]; exact q)
theorem c_X15_charAt {Q : Option Value → am_H → Prop} (hS : SQ h p b n cc) {i : Nat} (hi : i < n) (q : Q (some (.int (nI (cc i)))) h) : AC am_P 3 81 296 [.ref p, .int (nI i)] h Q := by
  refine AC.of (ls := [_, _]) rfl ?_
  have hS0 := hS
  obtain ⟨h1, h2, hn, hs, hc⟩ := hS
  refine aw rfl rfl ?_
  refine aw_cv (d1 := 0) (L1 := 0) rfl rfl h1 rfl rfl (by decide) (by decide) (Nat.le_of_ble_eq_true rfl) (c_X15_isLatin1 hS0 ?_)
  · refine aw_eq rfl (fun c => absurd c (by decide)) (fun _ => ?_)
    refine aw rfl rfl ?_
    refine aw_getf rfl h1 rfl ?_
    refine aw rfl rfl ?_
    refine aw_cs (d1 := 2) (L1 := 60) rfl rfl (by decide) (by decide) (Nat.le_of_ble_eq_true rfl) (c_X16_charAt hS0 hi ?_)
    exact aw_iret rfl (rt3 _ (hc i)) q
theorem c_X16_canEncode {Q : Option Value → am_H → Prop} {c : Nat} (hc : c < 128) (q : Q (some (.int (nI 1))) h) : AC am_P 0 0 302 [.int (nI c)] h Q := by
  refine AC.of (ls := [_]) rfl ?_
  refine aw rfl rfl ?_
  refine aw_ltn rfl ?_
  refine aw rfl rfl ?_
  refine aw_c (v := nI 255) rfl (by decide) ?_
  refine aw_igtn rfl (fun c8 => by omega) (fun c8 => ?_)
  refine aw_c (v := nI 1) rfl (by decide) ?_
  refine aw rfl rfl ?_
  exact aw_iret rfl rfl q
theorem c_X16_indexOfChar {Q : Option Value → am_H → Prop} (hS : SQ h p b n cc) {c : Nat} (hc9 : c < 128) (q1 : ∀ j, j < n → cc j = c → (∀ i, i < j → ¬ cc i = c) → Q (some (.int (nI j))) h) (q0 : (∀ i, i < n → ¬ cc i = c) → Q (some (.int (-1))) h) : AC am_P 0 0 303 [.ref b, .int (nI c), .int (nI 0), .int (nI n)] h Q := by
  refine AC.of (ls := [_, _, _, _, _, _]) rfl ?_
  obtain ⟨h1, h2, hn, hs, hc⟩ := hS
  refine aw rfl rfl ?_
  refine aw rfl rfl ?_
  rw [i2b_n c hc9]
  refine aw_ist (ls' := [_, _, _, _, _, _]) rfl rfl ?_
  refine aw rfl rfl ?_
  refine aw_ist (ls' := [_, _, _, _, _, _]) rfl rfl ?_
  refine aw_loop (α := Unit) (ll := fun i y => [some (.ref b), some (.int (nI c)), some (.int (nI 0)), some (.int (nI n)), some (.int (nI c)), some (.int (nI i))]) (hh := fun i y => h) (I := fun i y => ∀ j, j < i → ¬ cc j = c) (N := n) (fun i y hi hI ih => ?_) (fun y hI => ?_) 0 () (Nat.zero_le _) (fun j hj => absurd hj (Nat.not_lt_zero _))
  · skip
    refine aw rfl rfl ?_
    refine aw rfl rfl ?_
    refine aw_igen rfl (fun c10 => by omega) (fun c10 => ?_)
    refine aw rfl rfl ?_
    refine aw rfl rfl ?_
    refine aw_bald rfl h2 rfl (by omega) (by omega) ?_
    have hci := hc i
    refine aw rfl rfl ?_
    refine aw_inen rfl (fun c19 => ?_) (fun c19 => ?_)
    · refine aw_incn (c := 1) (ls' := [_, _, _, _, _, _]) rfl rfl (by decide) rfl ?_
      refine aw rfl rfl ?_
      exact ih () (fun j hj => by
        by_cases e : j = i
        · subst e; exact c19
        · exact hI j (by omega))
    · refine aw rfl rfl ?_
      exact aw_iret rfl rfl (q1 i hi c19 hI)
  · skip
    refine aw rfl rfl ?_
    refine aw rfl rfl ?_
    refine aw_igen rfl (fun c10 => ?_) (fun c10 => by omega)
    refine aw_c (v := -1) rfl (by decide) ?_
    exact aw_iret rfl rfl (q0 hI)
theorem c_X16_indexOf {Q : Option Value → am_H → Prop} (hS : SQ h p b n cc) (hn0 : 0 < n) {c : Nat} (hc9 : c < 128) (q1 : ∀ j, j < n → cc j = c → (∀ i, i < j → ¬ cc i = c) → Q (some (.int (nI j))) h) (q0 : (∀ i, i < n → ¬ cc i = c) → Q (some (.int (-1))) h) : AC am_P 1 25 301 [.ref b, .int (nI c), .int (nI 0), .int (nI n)] h Q := by
  refine AC.of (ls := [_, _, _, _]) rfl ?_
  have hS0 := hS
  obtain ⟨h1, h2, hn, hs, hc⟩ := hS
  refine aw rfl rfl ?_
  refine aw_cs (d1 := 0) (L1 := 0) rfl rfl (by decide) (by decide) (Nat.le_of_ble_eq_true rfl) (c_X16_canEncode hc9 ?_)
  · refine aw_ne rfl (fun _ => ?_) (fun c => absurd c (by decide))
    refine aw rfl rfl ?_
    refine aw_c (v := nI 0) rfl (by decide) ?_
    refine aw rfl rfl ?_
    rw [show (if nI 0 < nI 0 then nI 0 else nI 0) = nI 0 from rfl]
    refine aw_ist (ls' := [_, _, _, _]) rfl rfl ?_
    refine aw rfl rfl ?_
    refine aw rfl rfl ?_
    refine aw_alen rfl h2 rfl ?_
    refine aw rfl rfl ?_
    rw [if_neg (show ¬ nI n < nI n from Int32.lt_irrefl)]
    refine aw_ist (ls' := [_, _, _, _]) rfl rfl ?_
    refine aw rfl rfl ?_
    refine aw rfl rfl ?_
    refine aw_iltn rfl (fun c24 => ?_) (fun c24 => by omega)
    refine aw rfl rfl ?_
    refine aw rfl rfl ?_
    refine aw rfl rfl ?_
    refine aw rfl rfl ?_
    refine aw_cs (d1 := 0) (L1 := 0) rfl rfl (by decide) (by decide) (Nat.le_of_ble_eq_true rfl) (c_X16_indexOfChar hS0 hc9 (fun j a1 a2 a3 => ?_) (fun a1 => ?_))
    · exact aw_iret rfl rfl (q1 j a1 a2 a3)
    · exact aw_iret rfl rfl (q0 a1)
theorem c_X15_indexOf_1 {Q : Option Value → am_H → Prop} (hS : SQ h p b n cc) (hn0 : 0 < n) {c : Nat} (hc9 : c < 128) (q1 : ∀ j, j < n → cc j = c → (∀ i, i < j → ¬ cc i = c) → Q (some (.int (nI j))) h) (q0 : (∀ i, i < n → ¬ cc i = c) → Q (some (.int (-1))) h) : AC am_P 2 48 299 [.ref p, .int (nI c), .int (nI 0)] h Q := by
  refine AC.of (ls := [_, _, _]) rfl ?_
  have hS0 := hS
  obtain ⟨h1, h2, hn, hs, hc⟩ := hS
  refine aw rfl rfl ?_
  refine aw_cv (d1 := 0) (L1 := 0) rfl rfl h1 rfl rfl (by decide) (by decide) (Nat.le_of_ble_eq_true rfl) (c_X15_isLatin1 hS0 ?_)
  · refine aw_eq rfl (fun c => absurd c (by decide)) (fun _ => ?_)
    refine aw rfl rfl ?_
    refine aw_getf rfl h1 rfl ?_
    refine aw rfl rfl ?_
    refine aw rfl rfl ?_
    refine aw rfl rfl ?_
    refine aw_cv (d1 := 1) (L1 := 20) rfl rfl h1 rfl rfl (by decide) (by decide) (Nat.le_of_ble_eq_true rfl) (c_X15_length hS0 ?_)
    refine aw_cs (d1 := 1) (L1 := 25) rfl rfl (by decide) (by decide) (Nat.le_of_ble_eq_true rfl) (c_X16_indexOf hS0 hn0 hc9 (fun j a1 a2 a3 => ?_) (fun a1 => ?_))
    · refine aw rfl rfl ?_
      exact aw_iret rfl rfl (q1 j a1 a2 a3)
    · refine aw rfl rfl ?_
      exact aw_iret rfl rfl (q0 a1)
theorem c_X15_indexOf_0 {Q : Option Value → am_H → Prop} (hS : SQ h p b n cc) (hn0 : 0 < n) {c : Nat} (hc9 : c < 128) (q1 : ∀ j, j < n → cc j = c → (∀ i, i < j → ¬ cc i = c) → Q (some (.int (nI j))) h) (q0 : (∀ i, i < n → ¬ cc i = c) → Q (some (.int (-1))) h) : AC am_P 3 70 298 [.ref p, .int (nI c)] h Q := by
  refine AC.of (ls := [_, _]) rfl ?_
  have hS0 := hS
  obtain ⟨h1, h2, hn, hs, hc⟩ := hS
  refine aw rfl rfl ?_
  refine aw rfl rfl ?_
  refine aw_c (v := nI 0) rfl (by decide) ?_
  refine aw_cv (d1 := 2) (L1 := 48) rfl rfl h1 rfl rfl (by decide) (by decide) (Nat.le_of_ble_eq_true rfl) (c_X15_indexOf_1 hS0 hn0 hc9 (fun j a1 a2 a3 => ?_) (fun a1 => ?_))
  · exact aw_iret rfl rfl (q1 j a1 a2 a3)
  · exact aw_iret rfl rfl (q0 a1)
end C1
