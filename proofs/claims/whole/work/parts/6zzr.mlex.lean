/-! ===== the reference cuts a text: byteAt, isLetter, isDigit, appends, token, sign ===== -/
def b8 (y : Int32) : Prop := -128 ≤ y ∧ y ≤ 127
theorem b8_all : ∀ m : Nat, m < 256 → (fun y : Int32 => blB (y &&& nI 255) = blB y ∧ ltB (y &&& nI 255) = ltB y ∧ dgB (y &&& nI 255) = dgB y ∧ sgC (y &&& nI 255) = sgC y ∧ (ltB y = true → y &&& nI 255 = y) ∧ (dgB y = true → y &&& nI 255 = y) ∧ vp_nar .byte y = y) (Int32.ofInt ((m : Int) - 128)) := by decide +kernel
theorem b8_of {y : Int32} (h : b8 y) : blB (y &&& nI 255) = blB y ∧ ltB (y &&& nI 255) = ltB y ∧ dgB (y &&& nI 255) = dgB y ∧ sgC (y &&& nI 255) = sgC y ∧ (ltB y = true → y &&& nI 255 = y) ∧ (dgB y = true → y &&& nI 255 = y) ∧ vp_nar .byte y = y := by
  obtain ⟨h1, h2⟩ := h
  rw [Int32.le_iff_toInt_le] at h1 h2
  have e1 : (-128 : Int32).toInt = -128 := by decide
  have e2 : (127 : Int32).toInt = 127 := by decide
  rw [e1] at h1
  rw [e2] at h2
  have e : y = Int32.ofInt (((y.toInt + 128).toNat : Int) - 128) := by
    rw [show (((y.toInt + 128).toNat : Int) - 128) = y.toInt by omega]
    exact (Int32.ofInt_toInt y).symm
  rw [e]
  exact b8_all _ (by omega)
def bAt (x : Nat → Int32) (n i : Nat) : Int32 := if i < n then x i &&& nI 255 else nI 0
section B1
variable {x : Nat → Int32} {n i : Nat}
theorem bAt_bl (hb : ∀ j, j < n → b8 (x j)) (hi : i < n) : blB (bAt x n i) = blB (x i) := by
  unfold bAt; rw [if_pos hi]; exact (b8_of (hb i hi)).1
theorem bAt_lt (hb : ∀ j, j < n → b8 (x j)) : ltB (bAt x n i) = true ↔ i < n ∧ ltB (x i) = true := by
  unfold bAt
  by_cases hi : i < n
  · rw [if_pos hi, (b8_of (hb i hi)).2.1]
    exact ⟨fun h => ⟨hi, h⟩, fun h => h.2⟩
  · rw [if_neg hi]
    exact ⟨fun h => absurd h (by decide), fun h => absurd h.1 hi⟩
theorem bAt_dg (hb : ∀ j, j < n → b8 (x j)) : dgB (bAt x n i) = true ↔ i < n ∧ dgB (x i) = true := by
  unfold bAt
  by_cases hi : i < n
  · rw [if_pos hi, (b8_of (hb i hi)).2.2.1]
    exact ⟨fun h => ⟨hi, h⟩, fun h => h.2⟩
  · rw [if_neg hi]
    exact ⟨fun h => absurd h (by decide), fun h => absurd h.1 hi⟩
theorem bAt_sg (hb : ∀ j, j < n → b8 (x j)) (hi : i < n) : sgC (bAt x n i) = sgC (x i) := by
  unfold bAt; rw [if_pos hi]; exact (b8_of (hb i hi)).2.2.2.1
theorem bAt_le (hb : ∀ j, j < n → b8 (x j)) (hi : i < n) (h : ltB (x i) = true) : bAt x n i = nI (96 + cN9 (x i)) := by
  unfold bAt; rw [if_pos hi, (b8_of (hb i hi)).2.2.2.2.1 h]; exact (lt_n h).1
theorem bAt_de (hb : ∀ j, j < n → b8 (x j)) (hi : i < n) (h : dgB (x i) = true) : bAt x n i = nI (48 + dN (x i)) := by
  unfold bAt; rw [if_pos hi, (b8_of (hb i hi)).2.2.2.2.2.1 h]; exact (dg_n h).1
theorem run_st {P : Int32 → Bool} : ∀ m i, n - i = m → ¬ (run P x n i < n ∧ P (x (run P x n i)) = true) := by
  intro m
  induction m with
  | zero => intro i hm; rw [run_n (by omega)]; omega
  | succ m ih =>
    intro i hm
    by_cases h : i < n ∧ P (x i) = true
    · rw [run_s h.1 h.2]; exact ih (i + 1) (by omega)
    · rw [run_e h]; exact h
theorem ltL_sn : ∀ m i, ltL x i (m + 1) = ltL x i m ++ [cN9 (x (i + m))] := by
  intro m
  induction m with
  | zero => intro i; rfl
  | succ m ih =>
    intro i
    rw [ltL, ih (i + 1), ltL, show i + 1 + m = i + (m + 1) by omega]
    rfl
end B1
/-- the words as the reference numbers them -/
def wdsR : List (List Nat) := [[18, 15, 23], [6, 1, 3, 5, 19], [11, 9, 3, 11], [2, 25], [20, 21, 18, 14], [4, 18, 9, 6, 20], [18, 21, 14, 19], [3, 1, 18, 19], [19, 20, 15, 14, 5], [6, 18, 9, 5, 14, 4], [12, 9, 22, 5, 19], [20, 1, 11, 5, 19], [19, 5, 5, 4], [9, 6], [20, 8, 5, 14], [5, 12, 19, 5], [1, 12, 15, 14, 7], [1, 3, 18, 15, 19, 19], [6, 1, 3, 5], [19, 15, 18, 20], [23, 8, 9, 3, 8], [8, 1, 18, 4], [19, 5, 3, 15, 14, 4]]
theorem wdR_k : ∀ j, j < 23 → n_keys.getD j 0 = n27 (wdsR.getD j []) := by decide +kernel
theorem wdR_in : ∀ j, j < 23 → wdsR.getD j [] ∈ wdsC := by decide
theorem wdR_ok : ∀ j, j < 23 → (∀ c ∈ wdsR.getD j [], 1 ≤ c ∧ c ≤ 26) ∧ (wdsR.getD j []).length ≤ 8 := by decide
def kwL (L : List Nat) : Nat → Nat
  | 0 => 1
  | j + 1 => if wdsR.getD j [] = L then 20 + j else kwL L j
theorem kwL_w : ∀ c, c < 23 → kwL (wdsC.getD c []) 23 = 20 + cwR c := by decide +kernel
theorem wi_no : ∀ (ws : List (List Nat)) (w : Nat) (L : List Nat), wiC ws w L = none → ∀ wd ∈ ws, ¬ wd = L := by
  intro ws
  induction ws with
  | nil => intro w L _ wd hw; cases hw
  | cons u ws ih =>
    intro w L h wd hw
    rw [wiC] at h
    split at h
    · cases h
    · rename_i hne
      rcases List.mem_cons.mp hw with rfl | hw
      · exact hne
      · exact ih _ _ h wd hw
theorem kwL_n {L : List Nat} (h : ∀ wd ∈ wdsC, ¬ wd = L) : ∀ j, j ≤ 23 → kwL L j = 1 := by
  intro j
  induction j with
  | zero => intro _; rfl
  | succ j ih => intro hj; rw [kwL, if_neg (h _ (wdR_in j (by omega)))]; exact ih (by omega)
theorem kwL_k {L : List Nat} (hl : L.length ≤ 7) : kwL L 23 = wkC L := by
  unfold wkC
  cases e : wiC wdsC 0 L with
  | none => rw [kwL_n (wi_no _ _ _ e) 23 (by decide)]; exact (if_pos (by omega)).symm
  | some c =>
    have h := wi_lt _ _ _ _ e
    have h9 : wdsC.length = 23 := rfl
    have h2 := kwL_w c (by omega)
    rw [show c = c - 0 by omega, h.2.2] at h2
    exact h2
theorem wkC_8 {L : List Nat} (hl : 7 < L.length) : wkC L = if L.length ≤ 8 then 1 else 3 := by
  unfold wkC
  cases e : wiC wdsC 0 L with
  | none => rfl
  | some c =>
    have h := wi_lt _ _ _ _ e
    have h9 : wdsC.length = 23 := rfl
    have h7 := wd_len c (by omega)
    rw [show c = c - 0 by omega, h.2.2] at h7
    omega
section C1
variable {g : am_H} {k : Mk} {v pl : Nat → Int32} {br lo : Int32} {c ct pr pt cm bf bt : Nat → Int32}
variable {Y : Tk} {s : Ps}
variable {n i t : Nat}
theorem c_X11_byteAt {Q : Option Value → am_H → Prop} {x : Nat → Int32} (h4 : k.1 4 = nI n) (hx : k.2.1 3 = x) (hn : n ≤ 2000) (hi9 : i ≤ 4000) (q : Q (some (.int (bAt x n i))) (mh g k v pl br lo c ct pr pt cm bf bt)) : AC am_P 0 0 196 [.ref 121, .int (nI i)] (mh g k v pl br lo c ct pr pt cm bf bt) Q := by
  refine AC.of (ls := [_, _]) rfl ?_
  subst hx
  refine aw rfl rfl ?_
  refine aw rfl rfl ?_
  refine aw_getfE rfl mg_121 rfl (congrArg Value.int h4) ?_
  refine aw_igen rfl (fun c5 => ?_) (fun c5 => ?_)
  · refine aw_c (v := nI 0) rfl (by decide) ?_
    exact aw_iret rfl rfl (by unfold bAt at q; rw [if_neg (by omega)] at q; exact q)
  · refine aw rfl rfl ?_
    refine aw_getf rfl mg_121 rfl ?_
    refine aw rfl rfl ?_
    refine aw_bald rfl mg_123 rfl (by omega) (by decide) ?_
    refine aw_c (v := nI 255) rfl (by decide) ?_
    refine aw rfl rfl ?_
    refine aw rfl rfl ?_
    exact aw_iret rfl rfl (by unfold bAt at q; rw [if_pos (by omega)] at q; exact q)
theorem c_X11_isLetter {h : am_H} {Q : Option Value → am_H → Prop} {y : Int32} (q1 : ltB y = true → Q (some (.int (nI 1))) h) (q0 : ¬ ltB y = true → Q (some (.int (nI 0))) h) : AC am_P 0 0 198 [.int y] h Q := by
  refine AC.of (ls := [_]) rfl ?_
  refine aw rfl rfl ?_
  refine aw_c (v := nI 97) rfl (by decide) ?_
  refine aw_ilt rfl (fun c3 => ?_) (fun c3 => ?_)
  · refine aw_c (v := nI 0) rfl (by decide) ?_
    exact aw_iret rfl rfl (q0 (by unfold ltB; simp; intro w; exact absurd c3 (Int32.not_lt.mpr w)))
  · refine aw rfl rfl ?_
    refine aw_c (v := nI 122) rfl (by decide) ?_
    refine aw_igt rfl (fun c9 => ?_) (fun c9 => ?_)
    · refine aw_c (v := nI 0) rfl (by decide) ?_
      exact aw_iret rfl rfl (q0 (by unfold ltB; simp; intro _; exact c9))
    · refine aw_c (v := nI 1) rfl (by decide) ?_
      refine aw rfl rfl ?_
      exact aw_iret rfl rfl (q1 (by unfold ltB; simp; exact ⟨Int32.not_lt.mp c3, Int32.not_lt.mp c9⟩))
theorem c_X11_isDigit {h : am_H} {Q : Option Value → am_H → Prop} {y : Int32} (q1 : dgB y = true → Q (some (.int (nI 1))) h) (q0 : ¬ dgB y = true → Q (some (.int (nI 0))) h) : AC am_P 0 0 199 [.int y] h Q := by
  refine AC.of (ls := [_]) rfl ?_
  refine aw rfl rfl ?_
  refine aw_c (v := nI 48) rfl (by decide) ?_
  refine aw_ilt rfl (fun c3 => ?_) (fun c3 => ?_)
  · refine aw_c (v := nI 0) rfl (by decide) ?_
    exact aw_iret rfl rfl (q0 (by unfold dgB; simp; intro w; exact absurd c3 (Int32.not_lt.mpr w)))
  · refine aw rfl rfl ?_
    refine aw_c (v := nI 57) rfl (by decide) ?_
    refine aw_igt rfl (fun c9 => ?_) (fun c9 => ?_)
    · refine aw_c (v := nI 0) rfl (by decide) ?_
      exact aw_iret rfl rfl (q0 (by unfold dgB; simp; intro _; exact c9))
    · refine aw_c (v := nI 1) rfl (by decide) ?_
      refine aw rfl rfl ?_
      exact aw_iret rfl rfl (q1 (by unfold dgB; simp; exact ⟨Int32.not_lt.mp c3, Int32.not_lt.mp c9⟩))
theorem n_let2 : ∀ c, c < 27 → (1 ≤ c → ¬ nI (96 + c) = 0) := by decide +kernel
theorem c_X11_appends {h : am_H} {Q : Option Value → am_H → Prop} {a c : Nat} (hc : 1 ≤ c ∧ c ≤ 26) (q : Q (some (.long (Int64.ofNat (a * 27 + c)))) h) : AC am_P 0 0 188 [.long (Int64.ofNat a), .int (nI (96 + c))] h Q := by
  refine AC.of (ls := [_, _, _]) rfl ?_
  refine aw rfl rfl ?_
  refine aw_ne rfl (fun c1 => ?_) (fun c1 => absurd c1 (n_let2 _ (by omega) hc.1))
  refine aw rfl rfl ?_
  refine aw rfl rfl ?_
  refine aw rfl rfl ?_
  refine aw rfl rfl ?_
  refine aw_c (v := nI 97) rfl (by decide) ?_
  refine aw rfl rfl ?_
  refine aw_c (v := nI 1) rfl (by decide) ?_
  refine aw rfl rfl ?_
  rw [n_let c (by omega) hc.1]
  refine aw rfl rfl ?_
  refine aw rfl rfl ?_
  exact aw_lret rfl rfl (by
    have e : (27 : Int64) * Int64.ofNat a + (nI c).toInt64 = Int64.ofNat (a * 27 + c) := by
      rw [nI_l (by omega)]
      unfold lN
      rw [Int64.ofNat_add, Int64.ofNat_mul, Int64.mul_comm]
      rfl
    rw [← e] at q
    exact q)
/-- one token more -/
def tkU (k : Mk) (t : Nat) (a b c : Int32) (m : Int64) : Mk := (va_up k.1 10 (nI (t + 1)), va_up (va_up (va_up k.2.1 5 (upd (k.2.1 5) t a)) 6 (upd (k.2.1 6) t b)) 7 (upd (k.2.1 7) t c), va_up k.2.2 8 (vp_updL (k.2.2 8) t m))
theorem c_X11_token {Q : Option Value → am_H → Prop} (h10 : k.1 10 = nI t) (ht : t ≤ 400) {a b d : Int32} {m : Int64} (q : Q none (mh g (tkU k t a b d m) v pl br lo c ct pr pt cm bf bt)) : AC am_P 0 0 197 [.ref 121, .int a, .int b, .int d, .long m] (mh g k v pl br lo c ct pr pt cm bf bt) Q := by
  refine AC.of (ls := [_, _, _, _, _, _]) rfl ?_
  refine aw rfl rfl ?_
  refine aw_getf rfl mg_121 rfl ?_
  refine aw rfl rfl ?_
  refine aw_getfE rfl mg_121 rfl (congrArg Value.int h10) ?_
  refine aw rfl rfl ?_
  refine aw_iastU rfl mg_124 rfl (by omega) (by decide) (by decide) mu_124 ?_
  refine aw rfl rfl ?_
  refine aw_getf rfl mg_121 rfl ?_
  refine aw rfl rfl ?_
  refine aw_getfE rfl mg_121 rfl (congrArg Value.int h10) ?_
  refine aw rfl rfl ?_
  refine aw_iastU rfl mg_125 rfl (by omega) (by decide) (by decide) mu_125 ?_
  refine aw rfl rfl ?_
  refine aw_getf rfl mg_121 rfl ?_
  refine aw rfl rfl ?_
  refine aw_getfE rfl mg_121 rfl (congrArg Value.int h10) ?_
  refine aw rfl rfl ?_
  refine aw_iastU rfl mg_126 rfl (by omega) (by decide) (by decide) mu_126 ?_
  refine aw rfl rfl ?_
  refine aw_getf rfl mg_121 rfl ?_
  refine aw rfl rfl ?_
  refine aw_getfE rfl mg_121 rfl (congrArg Value.int h10) ?_
  refine aw rfl rfl ?_
  refine aw_lastU rfl mg_127 rfl (by omega) (by decide) (by decide) mu_127 ?_
  refine aw rfl rfl ?_
  refine aw rfl rfl ?_
  refine aw_getfE rfl mg_121 rfl (congrArg Value.int h10) ?_
  refine aw_c (v := nI 1) rfl (by decide) ?_
  refine aw_addn rfl ?_
  refine aw_putfU rfl mg_121 rfl rfl (by decide) mp_10 ?_
  exact aw_vret rfl rfl q
theorem c_X11_sign {Q : Option Value → am_H → Prop} (h10 : k.1 10 = nI t) (ht : t ≤ 400) {y z : Int32} (q : Q (some (.int (nI 1))) (mh g (tkU k t (nI (sgC y)) (nI i) (nI 0) (Int64.ofNat 0)) v pl br lo c ct pr pt cm bf bt)) : AC am_P 1 25 200 [.ref 121, .int (nI i), .int y, .int z] (mh g k v pl br lo c ct pr pt cm bf bt) Q := by
  refine AC.of (ls := [_, _, _, _, _]) rfl ?_
  by_cases e59 : y = nI 59
  · rw [e59, show sgC (nI 59) = 4 by decide] at q
    rw [e59]
    refine aw rfl rfl ?_
    refine aw_c (v := nI 59) rfl (by decide) ?_
    refine aw_ine rfl (fun c => absurd (by decide) c) (fun _ => ?_)
    refine aw_c (v := nI 4) rfl (by decide) ?_
    refine aw rfl rfl ?_
    refine aw_ist (ls' := [_, _, _, _, _]) rfl rfl ?_
    refine aw rfl rfl ?_
    refine aw_c (v := nI 43) rfl (by decide) ?_
    refine aw_ine rfl (fun _ => ?_) (fun c => absurd c (by decide))
    refine aw rfl rfl ?_
    refine aw_c (v := nI 45) rfl (by decide) ?_
    refine aw_ine rfl (fun _ => ?_) (fun c => absurd c (by decide))
    refine aw rfl rfl ?_
    refine aw_c (v := nI 42) rfl (by decide) ?_
    refine aw_ine rfl (fun _ => ?_) (fun c => absurd c (by decide))
    refine aw rfl rfl ?_
    refine aw_c (v := nI 47) rfl (by decide) ?_
    refine aw_ine rfl (fun _ => ?_) (fun c => absurd c (by decide))
    refine aw rfl rfl ?_
    refine aw_c (v := nI 60) rfl (by decide) ?_
    refine aw_ine rfl (fun _ => ?_) (fun c => absurd c (by decide))
    refine aw rfl rfl ?_
    refine aw rfl rfl ?_
    refine aw rfl rfl ?_
    refine aw_c (v := nI 0) rfl (by decide) ?_
    refine aw rfl rfl ?_
    refine aw_cv (d1 := 0) (L1 := 0) rfl rfl mg_121 rfl rfl (by decide) (by decide) (Nat.le_of_ble_eq_true rfl) (c_X11_token h10 ht ?_)
    refine aw_c (v := nI 1) rfl (by decide) ?_
    exact aw_iret rfl rfl q
  by_cases e61 : y = nI 61
  · rw [e61, show sgC (nI 61) = 5 by decide] at q
    rw [e61]
    refine aw rfl rfl ?_
    refine aw_c (v := nI 59) rfl (by decide) ?_
    refine aw_ine rfl (fun _ => ?_) (fun c => absurd c (by decide))
    refine aw rfl rfl ?_
    refine aw_c (v := nI 61) rfl (by decide) ?_
    refine aw_ine rfl (fun c => absurd (by decide) c) (fun _ => ?_)
    refine aw_c (v := nI 5) rfl (by decide) ?_
    refine aw rfl rfl ?_
    refine aw_ist (ls' := [_, _, _, _, _]) rfl rfl ?_
    refine aw rfl rfl ?_
    refine aw_c (v := nI 43) rfl (by decide) ?_
    refine aw_ine rfl (fun _ => ?_) (fun c => absurd c (by decide))
    refine aw rfl rfl ?_
    refine aw_c (v := nI 45) rfl (by decide) ?_
    refine aw_ine rfl (fun _ => ?_) (fun c => absurd c (by decide))
    refine aw rfl rfl ?_
    refine aw_c (v := nI 42) rfl (by decide) ?_
    refine aw_ine rfl (fun _ => ?_) (fun c => absurd c (by decide))
    refine aw rfl rfl ?_
    refine aw_c (v := nI 47) rfl (by decide) ?_
    refine aw_ine rfl (fun _ => ?_) (fun c => absurd c (by decide))
    refine aw rfl rfl ?_
    refine aw_c (v := nI 60) rfl (by decide) ?_
    refine aw_ine rfl (fun _ => ?_) (fun c => absurd c (by decide))
    refine aw rfl rfl ?_
    refine aw rfl rfl ?_
    refine aw rfl rfl ?_
    refine aw_c (v := nI 0) rfl (by decide) ?_
    refine aw rfl rfl ?_
    refine aw_cv (d1 := 0) (L1 := 0) rfl rfl mg_121 rfl rfl (by decide) (by decide) (Nat.le_of_ble_eq_true rfl) (c_X11_token h10 ht ?_)
    refine aw_c (v := nI 1) rfl (by decide) ?_
    exact aw_iret rfl rfl q
  by_cases e40 : y = nI 40
  · rw [e40, show sgC (nI 40) = 6 by decide] at q
    rw [e40]
    refine aw rfl rfl ?_
    refine aw_c (v := nI 59) rfl (by decide) ?_
    refine aw_ine rfl (fun _ => ?_) (fun c => absurd c (by decide))
    refine aw rfl rfl ?_
    refine aw_c (v := nI 61) rfl (by decide) ?_
    refine aw_ine rfl (fun _ => ?_) (fun c => absurd c (by decide))
    refine aw rfl rfl ?_
    refine aw_c (v := nI 40) rfl (by decide) ?_
    refine aw_ine rfl (fun c => absurd (by decide) c) (fun _ => ?_)
    refine aw_c (v := nI 6) rfl (by decide) ?_
    refine aw rfl rfl ?_
    refine aw_ist (ls' := [_, _, _, _, _]) rfl rfl ?_
    refine aw rfl rfl ?_
    refine aw_c (v := nI 43) rfl (by decide) ?_
    refine aw_ine rfl (fun _ => ?_) (fun c => absurd c (by decide))
    refine aw rfl rfl ?_
    refine aw_c (v := nI 45) rfl (by decide) ?_
    refine aw_ine rfl (fun _ => ?_) (fun c => absurd c (by decide))
    refine aw rfl rfl ?_
    refine aw_c (v := nI 42) rfl (by decide) ?_
    refine aw_ine rfl (fun _ => ?_) (fun c => absurd c (by decide))
    refine aw rfl rfl ?_
    refine aw_c (v := nI 47) rfl (by decide) ?_
    refine aw_ine rfl (fun _ => ?_) (fun c => absurd c (by decide))
    refine aw rfl rfl ?_
    refine aw_c (v := nI 60) rfl (by decide) ?_
    refine aw_ine rfl (fun _ => ?_) (fun c => absurd c (by decide))
    refine aw rfl rfl ?_
    refine aw rfl rfl ?_
    refine aw rfl rfl ?_
    refine aw_c (v := nI 0) rfl (by decide) ?_
    refine aw rfl rfl ?_
    refine aw_cv (d1 := 0) (L1 := 0) rfl rfl mg_121 rfl rfl (by decide) (by decide) (Nat.le_of_ble_eq_true rfl) (c_X11_token h10 ht ?_)
    refine aw_c (v := nI 1) rfl (by decide) ?_
    exact aw_iret rfl rfl q
  by_cases e41 : y = nI 41
  · rw [e41, show sgC (nI 41) = 7 by decide] at q
    rw [e41]
    refine aw rfl rfl ?_
    refine aw_c (v := nI 59) rfl (by decide) ?_
    refine aw_ine rfl (fun _ => ?_) (fun c => absurd c (by decide))
    refine aw rfl rfl ?_
    refine aw_c (v := nI 61) rfl (by decide) ?_
    refine aw_ine rfl (fun _ => ?_) (fun c => absurd c (by decide))
    refine aw rfl rfl ?_
    refine aw_c (v := nI 40) rfl (by decide) ?_
    refine aw_ine rfl (fun _ => ?_) (fun c => absurd c (by decide))
    refine aw rfl rfl ?_
    refine aw_c (v := nI 41) rfl (by decide) ?_
    refine aw_ine rfl (fun c => absurd (by decide) c) (fun _ => ?_)
    refine aw_c (v := nI 7) rfl (by decide) ?_
    refine aw rfl rfl ?_
    refine aw_ist (ls' := [_, _, _, _, _]) rfl rfl ?_
    refine aw rfl rfl ?_
    refine aw_c (v := nI 43) rfl (by decide) ?_
    refine aw_ine rfl (fun _ => ?_) (fun c => absurd c (by decide))
    refine aw rfl rfl ?_
    refine aw_c (v := nI 45) rfl (by decide) ?_
    refine aw_ine rfl (fun _ => ?_) (fun c => absurd c (by decide))
    refine aw rfl rfl ?_
    refine aw_c (v := nI 42) rfl (by decide) ?_
    refine aw_ine rfl (fun _ => ?_) (fun c => absurd c (by decide))
    refine aw rfl rfl ?_
    refine aw_c (v := nI 47) rfl (by decide) ?_
    refine aw_ine rfl (fun _ => ?_) (fun c => absurd c (by decide))
    refine aw rfl rfl ?_
    refine aw_c (v := nI 60) rfl (by decide) ?_
    refine aw_ine rfl (fun _ => ?_) (fun c => absurd c (by decide))
    refine aw rfl rfl ?_
    refine aw rfl rfl ?_
    refine aw rfl rfl ?_
    refine aw_c (v := nI 0) rfl (by decide) ?_
    refine aw rfl rfl ?_
    refine aw_cv (d1 := 0) (L1 := 0) rfl rfl mg_121 rfl rfl (by decide) (by decide) (Nat.le_of_ble_eq_true rfl) (c_X11_token h10 ht ?_)
    refine aw_c (v := nI 1) rfl (by decide) ?_
    exact aw_iret rfl rfl q
  by_cases e43 : y = nI 43
  · rw [e43, show sgC (nI 43) = 8 by decide] at q
    rw [e43]
    refine aw rfl rfl ?_
    refine aw_c (v := nI 59) rfl (by decide) ?_
    refine aw_ine rfl (fun _ => ?_) (fun c => absurd c (by decide))
    refine aw rfl rfl ?_
    refine aw_c (v := nI 61) rfl (by decide) ?_
    refine aw_ine rfl (fun _ => ?_) (fun c => absurd c (by decide))
    refine aw rfl rfl ?_
    refine aw_c (v := nI 40) rfl (by decide) ?_
    refine aw_ine rfl (fun _ => ?_) (fun c => absurd c (by decide))
    refine aw rfl rfl ?_
    refine aw_c (v := nI 41) rfl (by decide) ?_
    refine aw_ine rfl (fun _ => ?_) (fun c => absurd c (by decide))
    refine aw_c (v := nI 3) rfl (by decide) ?_
    refine aw_ist (ls' := [_, _, _, _, _]) rfl rfl ?_
    refine aw rfl rfl ?_
    refine aw_c (v := nI 43) rfl (by decide) ?_
    refine aw_ine rfl (fun c => absurd (by decide) c) (fun _ => ?_)
    refine aw_c (v := nI 8) rfl (by decide) ?_
    refine aw_ist (ls' := [_, _, _, _, _]) rfl rfl ?_
    refine aw rfl rfl ?_
    refine aw_c (v := nI 45) rfl (by decide) ?_
    refine aw_ine rfl (fun _ => ?_) (fun c => absurd c (by decide))
    refine aw rfl rfl ?_
    refine aw_c (v := nI 42) rfl (by decide) ?_
    refine aw_ine rfl (fun _ => ?_) (fun c => absurd c (by decide))
    refine aw rfl rfl ?_
    refine aw_c (v := nI 47) rfl (by decide) ?_
    refine aw_ine rfl (fun _ => ?_) (fun c => absurd c (by decide))
    refine aw rfl rfl ?_
    refine aw_c (v := nI 60) rfl (by decide) ?_
    refine aw_ine rfl (fun _ => ?_) (fun c => absurd c (by decide))
    refine aw rfl rfl ?_
    refine aw rfl rfl ?_
    refine aw rfl rfl ?_
    refine aw_c (v := nI 0) rfl (by decide) ?_
    refine aw rfl rfl ?_
    refine aw_cv (d1 := 0) (L1 := 0) rfl rfl mg_121 rfl rfl (by decide) (by decide) (Nat.le_of_ble_eq_true rfl) (c_X11_token h10 ht ?_)
    refine aw_c (v := nI 1) rfl (by decide) ?_
    exact aw_iret rfl rfl q
  by_cases e45 : y = nI 45
  · rw [e45, show sgC (nI 45) = 9 by decide] at q
    rw [e45]
    refine aw rfl rfl ?_
    refine aw_c (v := nI 59) rfl (by decide) ?_
    refine aw_ine rfl (fun _ => ?_) (fun c => absurd c (by decide))
    refine aw rfl rfl ?_
    refine aw_c (v := nI 61) rfl (by decide) ?_
    refine aw_ine rfl (fun _ => ?_) (fun c => absurd c (by decide))
    refine aw rfl rfl ?_
    refine aw_c (v := nI 40) rfl (by decide) ?_
    refine aw_ine rfl (fun _ => ?_) (fun c => absurd c (by decide))
    refine aw rfl rfl ?_
    refine aw_c (v := nI 41) rfl (by decide) ?_
    refine aw_ine rfl (fun _ => ?_) (fun c => absurd c (by decide))
    refine aw_c (v := nI 3) rfl (by decide) ?_
    refine aw_ist (ls' := [_, _, _, _, _]) rfl rfl ?_
    refine aw rfl rfl ?_
    refine aw_c (v := nI 43) rfl (by decide) ?_
    refine aw_ine rfl (fun _ => ?_) (fun c => absurd c (by decide))
    refine aw rfl rfl ?_
    refine aw_c (v := nI 45) rfl (by decide) ?_
    refine aw_ine rfl (fun c => absurd (by decide) c) (fun _ => ?_)
    refine aw_c (v := nI 9) rfl (by decide) ?_
    refine aw_ist (ls' := [_, _, _, _, _]) rfl rfl ?_
    refine aw rfl rfl ?_
    refine aw_c (v := nI 42) rfl (by decide) ?_
    refine aw_ine rfl (fun _ => ?_) (fun c => absurd c (by decide))
    refine aw rfl rfl ?_
    refine aw_c (v := nI 47) rfl (by decide) ?_
    refine aw_ine rfl (fun _ => ?_) (fun c => absurd c (by decide))
    refine aw rfl rfl ?_
    refine aw_c (v := nI 60) rfl (by decide) ?_
    refine aw_ine rfl (fun _ => ?_) (fun c => absurd c (by decide))
    refine aw rfl rfl ?_
    refine aw rfl rfl ?_
    refine aw rfl rfl ?_
    refine aw_c (v := nI 0) rfl (by decide) ?_
    refine aw rfl rfl ?_
    refine aw_cv (d1 := 0) (L1 := 0) rfl rfl mg_121 rfl rfl (by decide) (by decide) (Nat.le_of_ble_eq_true rfl) (c_X11_token h10 ht ?_)
    refine aw_c (v := nI 1) rfl (by decide) ?_
    exact aw_iret rfl rfl q
  by_cases e42 : y = nI 42
  · rw [e42, show sgC (nI 42) = 10 by decide] at q
    rw [e42]
    refine aw rfl rfl ?_
    refine aw_c (v := nI 59) rfl (by decide) ?_
    refine aw_ine rfl (fun _ => ?_) (fun c => absurd c (by decide))
    refine aw rfl rfl ?_
    refine aw_c (v := nI 61) rfl (by decide) ?_
    refine aw_ine rfl (fun _ => ?_) (fun c => absurd c (by decide))
    refine aw rfl rfl ?_
    refine aw_c (v := nI 40) rfl (by decide) ?_
    refine aw_ine rfl (fun _ => ?_) (fun c => absurd c (by decide))
    refine aw rfl rfl ?_
    refine aw_c (v := nI 41) rfl (by decide) ?_
    refine aw_ine rfl (fun _ => ?_) (fun c => absurd c (by decide))
    refine aw_c (v := nI 3) rfl (by decide) ?_
    refine aw_ist (ls' := [_, _, _, _, _]) rfl rfl ?_
    refine aw rfl rfl ?_
    refine aw_c (v := nI 43) rfl (by decide) ?_
    refine aw_ine rfl (fun _ => ?_) (fun c => absurd c (by decide))
    refine aw rfl rfl ?_
    refine aw_c (v := nI 45) rfl (by decide) ?_
    refine aw_ine rfl (fun _ => ?_) (fun c => absurd c (by decide))
    refine aw rfl rfl ?_
    refine aw_c (v := nI 42) rfl (by decide) ?_
    refine aw_ine rfl (fun c => absurd (by decide) c) (fun _ => ?_)
    refine aw_c (v := nI 10) rfl (by decide) ?_
    refine aw_ist (ls' := [_, _, _, _, _]) rfl rfl ?_
    refine aw rfl rfl ?_
    refine aw_c (v := nI 47) rfl (by decide) ?_
    refine aw_ine rfl (fun _ => ?_) (fun c => absurd c (by decide))
    refine aw rfl rfl ?_
    refine aw_c (v := nI 60) rfl (by decide) ?_
    refine aw_ine rfl (fun _ => ?_) (fun c => absurd c (by decide))
    refine aw rfl rfl ?_
    refine aw rfl rfl ?_
    refine aw rfl rfl ?_
    refine aw_c (v := nI 0) rfl (by decide) ?_
    refine aw rfl rfl ?_
    refine aw_cv (d1 := 0) (L1 := 0) rfl rfl mg_121 rfl rfl (by decide) (by decide) (Nat.le_of_ble_eq_true rfl) (c_X11_token h10 ht ?_)
    refine aw_c (v := nI 1) rfl (by decide) ?_
    exact aw_iret rfl rfl q
  by_cases e47 : y = nI 47
  · rw [e47, show sgC (nI 47) = 15 by decide] at q
    rw [e47]
    refine aw rfl rfl ?_
    refine aw_c (v := nI 59) rfl (by decide) ?_
    refine aw_ine rfl (fun _ => ?_) (fun c => absurd c (by decide))
    refine aw rfl rfl ?_
    refine aw_c (v := nI 61) rfl (by decide) ?_
    refine aw_ine rfl (fun _ => ?_) (fun c => absurd c (by decide))
    refine aw rfl rfl ?_
    refine aw_c (v := nI 40) rfl (by decide) ?_
    refine aw_ine rfl (fun _ => ?_) (fun c => absurd c (by decide))
    refine aw rfl rfl ?_
    refine aw_c (v := nI 41) rfl (by decide) ?_
    refine aw_ine rfl (fun _ => ?_) (fun c => absurd c (by decide))
    refine aw_c (v := nI 3) rfl (by decide) ?_
    refine aw_ist (ls' := [_, _, _, _, _]) rfl rfl ?_
    refine aw rfl rfl ?_
    refine aw_c (v := nI 43) rfl (by decide) ?_
    refine aw_ine rfl (fun _ => ?_) (fun c => absurd c (by decide))
    refine aw rfl rfl ?_
    refine aw_c (v := nI 45) rfl (by decide) ?_
    refine aw_ine rfl (fun _ => ?_) (fun c => absurd c (by decide))
    refine aw rfl rfl ?_
    refine aw_c (v := nI 42) rfl (by decide) ?_
    refine aw_ine rfl (fun _ => ?_) (fun c => absurd c (by decide))
    refine aw rfl rfl ?_
    refine aw_c (v := nI 47) rfl (by decide) ?_
    refine aw_ine rfl (fun c => absurd (by decide) c) (fun _ => ?_)
    refine aw_c (v := nI 15) rfl (by decide) ?_
    refine aw_ist (ls' := [_, _, _, _, _]) rfl rfl ?_
    refine aw rfl rfl ?_
    refine aw_c (v := nI 60) rfl (by decide) ?_
    refine aw_ine rfl (fun _ => ?_) (fun c => absurd c (by decide))
    refine aw rfl rfl ?_
    refine aw rfl rfl ?_
    refine aw rfl rfl ?_
    refine aw_c (v := nI 0) rfl (by decide) ?_
    refine aw rfl rfl ?_
    refine aw_cv (d1 := 0) (L1 := 0) rfl rfl mg_121 rfl rfl (by decide) (by decide) (Nat.le_of_ble_eq_true rfl) (c_X11_token h10 ht ?_)
    refine aw_c (v := nI 1) rfl (by decide) ?_
    exact aw_iret rfl rfl q
  by_cases e60 : y = nI 60
  · rw [e60, show sgC (nI 60) = 13 by decide] at q
    rw [e60]
    refine aw rfl rfl ?_
    refine aw_c (v := nI 59) rfl (by decide) ?_
    refine aw_ine rfl (fun _ => ?_) (fun c => absurd c (by decide))
    refine aw rfl rfl ?_
    refine aw_c (v := nI 61) rfl (by decide) ?_
    refine aw_ine rfl (fun _ => ?_) (fun c => absurd c (by decide))
    refine aw rfl rfl ?_
    refine aw_c (v := nI 40) rfl (by decide) ?_
    refine aw_ine rfl (fun _ => ?_) (fun c => absurd c (by decide))
    refine aw rfl rfl ?_
    refine aw_c (v := nI 41) rfl (by decide) ?_
    refine aw_ine rfl (fun _ => ?_) (fun c => absurd c (by decide))
    refine aw_c (v := nI 3) rfl (by decide) ?_
    refine aw_ist (ls' := [_, _, _, _, _]) rfl rfl ?_
    refine aw rfl rfl ?_
    refine aw_c (v := nI 43) rfl (by decide) ?_
    refine aw_ine rfl (fun _ => ?_) (fun c => absurd c (by decide))
    refine aw rfl rfl ?_
    refine aw_c (v := nI 45) rfl (by decide) ?_
    refine aw_ine rfl (fun _ => ?_) (fun c => absurd c (by decide))
    refine aw rfl rfl ?_
    refine aw_c (v := nI 42) rfl (by decide) ?_
    refine aw_ine rfl (fun _ => ?_) (fun c => absurd c (by decide))
    refine aw rfl rfl ?_
    refine aw_c (v := nI 47) rfl (by decide) ?_
    refine aw_ine rfl (fun _ => ?_) (fun c => absurd c (by decide))
    refine aw rfl rfl ?_
    refine aw_c (v := nI 60) rfl (by decide) ?_
    refine aw_ine rfl (fun c => absurd (by decide) c) (fun _ => ?_)
    refine aw_c (v := nI 13) rfl (by decide) ?_
    refine aw_ist (ls' := [_, _, _, _, _]) rfl rfl ?_
    refine aw rfl rfl ?_
    refine aw rfl rfl ?_
    refine aw rfl rfl ?_
    refine aw_c (v := nI 0) rfl (by decide) ?_
    refine aw rfl rfl ?_
    refine aw_cv (d1 := 0) (L1 := 0) rfl rfl mg_121 rfl rfl (by decide) (by decide) (Nat.le_of_ble_eq_true rfl) (c_X11_token h10 ht ?_)
    refine aw_c (v := nI 1) rfl (by decide) ?_
    exact aw_iret rfl rfl q
  rw [show sgC y = 3 by unfold sgC; rw [if_neg e59, if_neg e61, if_neg e40, if_neg e41, if_neg e43, if_neg e45, if_neg e42, if_neg e60, if_neg e47]] at q
  refine aw rfl rfl ?_
  refine aw_c (v := nI 59) rfl (by decide) ?_
  refine aw_ine rfl (fun c3 => ?_) (fun c3 => absurd c3 e59)
  refine aw rfl rfl ?_
  refine aw_c (v := nI 61) rfl (by decide) ?_
  refine aw_ine rfl (fun c13 => ?_) (fun c13 => absurd c13 e61)
  refine aw rfl rfl ?_
  refine aw_c (v := nI 40) rfl (by decide) ?_
  refine aw_ine rfl (fun c23 => ?_) (fun c23 => absurd c23 e40)
  refine aw rfl rfl ?_
  refine aw_c (v := nI 41) rfl (by decide) ?_
  refine aw_ine rfl (fun c34 => ?_) (fun c34 => absurd c34 e41)
  refine aw_c (v := nI 3) rfl (by decide) ?_
  refine aw_ist (ls' := [_, _, _, _, _]) rfl rfl ?_
  refine aw rfl rfl ?_
  refine aw_c (v := nI 43) rfl (by decide) ?_
  refine aw_ine rfl (fun c48 => ?_) (fun c48 => absurd c48 e43)
  refine aw rfl rfl ?_
  refine aw_c (v := nI 45) rfl (by decide) ?_
  refine aw_ine rfl (fun c58 => ?_) (fun c58 => absurd c58 e45)
  refine aw rfl rfl ?_
  refine aw_c (v := nI 42) rfl (by decide) ?_
  refine aw_ine rfl (fun c68 => ?_) (fun c68 => absurd c68 e42)
  refine aw rfl rfl ?_
  refine aw_c (v := nI 47) rfl (by decide) ?_
  refine aw_ine rfl (fun c78 => ?_) (fun c78 => absurd c78 e47)
  refine aw rfl rfl ?_
  refine aw_c (v := nI 60) rfl (by decide) ?_
  refine aw_ine rfl (fun c88 => ?_) (fun c88 => absurd c88 e60)
  refine aw rfl rfl ?_
  refine aw rfl rfl ?_
  refine aw rfl rfl ?_
  refine aw_c (v := nI 0) rfl (by decide) ?_
  refine aw rfl rfl ?_
  refine aw_cv (d1 := 0) (L1 := 0) rfl rfl mg_121 rfl rfl (by decide) (by decide) (Nat.le_of_ble_eq_true rfl) (c_X11_token h10 ht ?_)
  refine aw_c (v := nI 1) rfl (by decide) ?_
  exact aw_iret rfl rfl q
end C1
