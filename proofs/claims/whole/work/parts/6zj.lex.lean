/-! ===== a text cut into tokens; the class: skipBlanks, scanInt ===== -/
def blB (y : Int32) : Bool := decide (y = nI 9) || decide (y = nI 10) || decide (y = nI 13) || decide (y = nI 32)
def ltB (y : Int32) : Bool := decide (nI 97 ≤ y) && decide (y ≤ nI 122)
def dgB (y : Int32) : Bool := decide (nI 48 ≤ y) && decide (y ≤ nI 57)
def runF (P : Int32 → Bool) (x : Nat → Int32) (n : Nat) : Nat → Nat → Nat
  | 0, i => i
  | f + 1, i => if i < n ∧ P (x i) = true then runF P x n f (i + 1) else i
/-- where a run of such bytes from i on ends -/
def run (P : Int32 → Bool) (x : Nat → Int32) (n i : Nat) : Nat := runF P x n (n - i) i
section R1
variable {P : Int32 → Bool} {x : Nat → Int32} {n i : Nat}
theorem run_s (h : i < n) (h1 : P (x i) = true) : run P x n i = run P x n (i + 1) := by
  unfold run
  rw [show n - i = (n - (i + 1)) + 1 by omega, runF, if_pos ⟨h, h1⟩]
theorem run_e (h : ¬ (i < n ∧ P (x i) = true)) : run P x n i = i := by
  unfold run
  cases hf : n - i with
  | zero => rfl
  | succ f => rw [runF, if_neg h]
theorem run_n (h : n ≤ i) : run P x n i = i := run_e (by omega)
theorem run_ge : ∀ m i, n - i = m → i ≤ run P x n i ∧ (i ≤ n → run P x n i ≤ n) ∧ ∀ j, i ≤ j → j < run P x n i → P (x j) = true ∧ j < n := by
  intro m
  induction m with
  | zero =>
    intro i hm
    rw [run_n (by omega)]
    exact ⟨Nat.le_refl _, fun h => h, fun j h1 h2 => by omega⟩
  | succ m ih =>
    intro i hm
    by_cases h : i < n ∧ P (x i) = true
    · rw [run_s h.1 h.2]
      obtain ⟨a1, a2, a3⟩ := ih (i + 1) (by omega)
      refine ⟨by omega, fun _ => a2 (by omega), fun j h1 h2 => ?_⟩
      by_cases e : j = i
      · subst e; exact ⟨h.2, h.1⟩
      · exact a3 j (by omega) h2
    · rw [run_e h]
      exact ⟨Nat.le_refl _, fun h => h, fun j h1 h2 => by omega⟩
theorem run_lo : i ≤ run P x n i := (run_ge _ i rfl).1
theorem run_hi (h : i ≤ n) : run P x n i ≤ n := (run_ge _ i rfl).2.1 h
theorem run_in {j : Nat} (h1 : i ≤ j) (h2 : j < run P x n i) : P (x j) = true ∧ j < n := (run_ge _ i rfl).2.2 j h1 h2
end R1
/-- a digit, a letter -/
def dN (y : Int32) : Nat := y.toNatClampNeg - 48
def cN9 (y : Int32) : Nat := y.toNatClampNeg - 96
def dv (x : Nat → Int32) (i : Nat) : Nat → Nat
  | 0 => 0
  | m + 1 => dv x i m * 10 + dN (x (i + m))
def dvI (x : Nat → Int32) (i : Nat) : Nat → Int32
  | 0 => nI 0
  | m + 1 => dvI x i m * nI 10 + x (i + m) - nI 48
theorem dg_n {y : Int32} (h : dgB y = true) : y = nI (48 + dN y) ∧ dN y ≤ 9 := by
  unfold dgB at h
  simp at h
  obtain ⟨j, hj, rfl⟩ := nI_of (x := y) (fun w => absurd (Int32.lt_of_le_of_lt h.1 w) (by decide))
  have h1 := (nI_leI (by decide) hj).mp h.1
  have h2 := (nI_leI hj (by decide)).mp h.2
  unfold dN
  rw [nI_clamp hj]
  exact ⟨by congr 1; omega, by omega⟩
theorem lt_n {y : Int32} (h : ltB y = true) : y = nI (96 + cN9 y) ∧ 1 ≤ cN9 y ∧ cN9 y ≤ 26 := by
  unfold ltB at h
  simp at h
  obtain ⟨j, hj, rfl⟩ := nI_of (x := y) (fun w => absurd (Int32.lt_of_le_of_lt h.1 w) (by decide))
  have h1 := (nI_leI (by decide) hj).mp h.1
  have h2 := (nI_leI hj (by decide)).mp h.2
  unfold cN9
  rw [nI_clamp hj]
  exact ⟨by congr 1; omega, by omega, by omega⟩
theorem dv_n {x : Nat → Int32} {i : Nat} : ∀ m, m ≤ 4 → (∀ j, j < m → dgB (x (i + j)) = true) → dvI x i m = nI (dv x i m) ∧ dv x i m < 10 ^ m := by
  intro m
  induction m with
  | zero => intro _ _; exact ⟨rfl, Nat.one_pos⟩
  | succ m ih =>
    intro hm h
    obtain ⟨e1, e2⟩ := ih (by omega) (fun j hj => h j (by omega))
    obtain ⟨d1, d2⟩ := dg_n (h m (by omega))
    refine ⟨?_, ?_⟩
    · show dvI x i m * nI 10 + x (i + m) - nI 48 = nI (dv x i m * 10 + dN (x (i + m)))
      have h9 := pk_sub (show 48 ≤ dv x i m * 10 + (48 + dN (x (i + m))) by omega)
      rw [show dv x i m * 10 + (48 + dN (x (i + m))) - 48 = dv x i m * 10 + dN (x (i + m)) by omega, ← nI_add, ← pk_mul, ← d1] at h9
      rw [e1]
      exact h9
    · show dv x i m * 10 + dN (x (i + m)) < 10 ^ (m + 1)
      rw [Nat.pow_succ]
      omega
/-- what cutting leaves as it was -/
def KX (K K' : Ck) : Prop := (∀ m, m < 13 ∨ 15 < m → K'.1 m = K.1 m) ∧ K'.2 = K.2
theorem KX.tr {K K1 K2 : Ck} (h : KX K K1) (h1 : KX K1 K2) : KX K K2 := ⟨fun n hn => (h1.1 n hn).trans (h.1 n hn), h1.2.trans h.2⟩
theorem KX.up {K : Ck} {n : Nat} {x : Int32} (hn : 13 ≤ n ∧ n ≤ 15) : KX K (va_up K.1 n x, K.2) := ⟨fun j hj => vu_ot (by omega), rfl⟩
theorem KX.rf {K : Ck} : KX K K := ⟨fun _ _ => rfl, rfl⟩
section C1
variable {z : Bool} {g : am_H} {T : Sd} {u : Ua} {X : Sd × Ua} {K : Ck} {rf : Nat → Nat}
variable {n i : Nat}
theorem c_X9_isBlank {h : am_H} {Q : Option Value → am_H → Prop} {y : Int32} (q1 : blB y = true → Q (some (.int (nI 1))) h) (q0 : blB y = false → Q (some (.int (nI 0))) h) : AC am_P 0 0 119 [.int y] h Q := by
  refine AC.of (ls := [_]) rfl ?_
  refine aw rfl rfl ?_
  refine aw_c (v := nI 9) rfl (by decide) ?_
  refine aw_ieq rfl (fun c3 => ?_) (fun c3 => ?_)
  · refine aw_c (v := nI 1) rfl (by decide) ?_
    refine aw rfl rfl ?_
    exact aw_iret rfl rfl (q1 (by unfold blB; simp [c3]))
  · refine aw rfl rfl ?_
    refine aw_c (v := nI 10) rfl (by decide) ?_
    refine aw_ieq rfl (fun c9 => ?_) (fun c9 => ?_)
    · refine aw_c (v := nI 1) rfl (by decide) ?_
      refine aw rfl rfl ?_
      exact aw_iret rfl rfl (q1 (by unfold blB; simp [c9]))
    · refine aw rfl rfl ?_
      refine aw_c (v := nI 13) rfl (by decide) ?_
      refine aw_ieq rfl (fun c15 => ?_) (fun c15 => ?_)
      · refine aw_c (v := nI 1) rfl (by decide) ?_
        refine aw rfl rfl ?_
        exact aw_iret rfl rfl (q1 (by unfold blB; simp [c15]))
      · refine aw rfl rfl ?_
        refine aw_c (v := nI 32) rfl (by decide) ?_
        refine aw_ine rfl (fun c21 => ?_) (fun c21 => ?_)
        · refine aw_c (v := nI 0) rfl (by decide) ?_
          exact aw_iret rfl rfl (q0 (by unfold blB; simp [c3, c9, c15, c21]))
        · refine aw_c (v := nI 1) rfl (by decide) ?_
          refine aw rfl rfl ?_
          exact aw_iret rfl rfl (q1 (by unfold blB; simp [c21]))
theorem c_X9_isLetter {h : am_H} {Q : Option Value → am_H → Prop} {y : Int32} (q1 : ltB y = true → Q (some (.int (nI 1))) h) (q0 : ltB y = false → Q (some (.int (nI 0))) h) : AC am_P 0 0 121 [.int y] h Q := by
  refine AC.of (ls := [_]) rfl ?_
  refine aw rfl rfl ?_
  refine aw_c (v := nI 97) rfl (by decide) ?_
  refine aw_ilt rfl (fun c3 => ?_) (fun c3 => ?_)
  · refine aw_c (v := nI 0) rfl (by decide) ?_
    exact aw_iret rfl rfl (q0 (by unfold ltB; simp; intro w; exact absurd c3 (Int32.not_lt.mpr w)))
  · refine aw rfl rfl ?_
    refine aw_c (v := nI 122) rfl (by decide) ?_
    refine aw_igt rfl (fun c9 => ?_) (fun c9 => ?_)
    · refine aw_c (v := nI 0) rfl (by decide) ?_
      exact aw_iret rfl rfl (q0 (by unfold ltB; simp; intro _; exact c9))
    · refine aw_c (v := nI 1) rfl (by decide) ?_
      refine aw rfl rfl ?_
      exact aw_iret rfl rfl (q1 (by unfold ltB; simp; exact ⟨Int32.not_lt.mp c3, Int32.not_lt.mp c9⟩))
theorem c_X9_isDigit {h : am_H} {Q : Option Value → am_H → Prop} {y : Int32} (q1 : dgB y = true → Q (some (.int (nI 1))) h) (q0 : dgB y = false → Q (some (.int (nI 0))) h) : AC am_P 0 0 124 [.int y] h Q := by
  refine AC.of (ls := [_]) rfl ?_
  refine aw rfl rfl ?_
  refine aw_c (v := nI 48) rfl (by decide) ?_
  refine aw_ilt rfl (fun c3 => ?_) (fun c3 => ?_)
  · refine aw_c (v := nI 0) rfl (by decide) ?_
    exact aw_iret rfl rfl (q0 (by unfold dgB; simp; intro w; exact absurd c3 (Int32.not_lt.mpr w)))
  · refine aw rfl rfl ?_
    refine aw_c (v := nI 57) rfl (by decide) ?_
    refine aw_igt rfl (fun c9 => ?_) (fun c9 => ?_)
    · refine aw_c (v := nI 0) rfl (by decide) ?_
      exact aw_iret rfl rfl (q0 (by unfold dgB; simp; intro _; exact c9))
    · refine aw_c (v := nI 1) rfl (by decide) ?_
      refine aw rfl rfl ?_
      exact aw_iret rfl rfl (q1 (by unfold dgB; simp; exact ⟨Int32.not_lt.mp c3, Int32.not_lt.mp c9⟩))
theorem c_X9_skipBlanks {Q : Option Value → am_H → Prop} (h12 : K.1 12 = nI n) (hn : n ≤ 2000) (h13 : K.1 13 = nI i) (hi : i ≤ n) (q : ∀ K', K'.1 13 = nI (run blB (K.2.1 9) n i) → KX K K' → Q none (cz z g T u X K' rf)) : AC am_P 1 20 118 [.ref 42] (cz z g T u X K rf) Q := by
  refine AC.of (ls := [_]) rfl ?_
  have key : ∀ m i K, n - i = m → K.1 12 = nI n → K.1 13 = nI i → i ≤ n → (∀ K', K'.1 13 = nI (run blB (K.2.1 9) n i) → KX K K' → Q none (cz z g T u X K' rf)) → AW am_P 1 20 118 0 [some (.ref 42)] [] (cz z g T u X K rf) Q := by
    intro m
    induction m with
    | zero =>
      intro i K hm h12 h13 hi q
      refine aw rfl rfl ?_
      refine aw_getfE rfl zg_42 rfl (congrArg Value.int h13) ?_
      refine aw rfl rfl ?_
      refine aw_getfE rfl zg_42 rfl (congrArg Value.int h12) ?_
      refine aw_igen rfl (fun c8 => ?_) (fun c8 => by omega)
      exact aw_vret rfl rfl (q K (by rw [run_n (by omega)]; exact h13) KX.rf)
    | succ m ih =>
      intro i K hm h12 h13 hi q
      refine aw rfl rfl ?_
      refine aw_getfE rfl zg_42 rfl (congrArg Value.int h13) ?_
      refine aw rfl rfl ?_
      refine aw_getfE rfl zg_42 rfl (congrArg Value.int h12) ?_
      refine aw_igen rfl (fun c8 => by omega) (fun c8 => ?_)
      refine aw rfl rfl ?_
      refine aw_getf rfl zg_42 rfl ?_
      refine aw rfl rfl ?_
      refine aw_getfE rfl zg_42 rfl (congrArg Value.int h13) ?_
      refine aw_bald rfl zg_9 rfl (by omega) (by decide) ?_
      refine aw_cs (d1 := 0) (L1 := 0) rfl rfl (by decide) (by decide) (Nat.le_of_ble_eq_true rfl) (c_X9_isBlank (fun hb => ?_) (fun hb => ?_))
      · refine aw_eq rfl (fun c => absurd c (by decide)) (fun _ => ?_)
        refine aw rfl rfl ?_
        refine aw rfl rfl ?_
        refine aw_getfE rfl zg_42 rfl (congrArg Value.int h13) ?_
        refine aw_c (v := nI 1) rfl (by decide) ?_
        refine aw_addn rfl ?_
        refine aw_putfU rfl zg_42 rfl rfl (by decide) zp_42_5 ?_
        refine aw rfl rfl ?_
        exact ih (i + 1) _ (by omega) h12 rfl (by omega) (fun K1 k1 k2 => q K1 (by rw [run_s (by omega) hb]; exact k1) ((KX.up (by decide)).tr k2))
      · refine aw_eq rfl (fun _ => ?_) (fun c => absurd (by decide) c)
        exact aw_vret rfl rfl (q K (by rw [run_e (fun w => by rw [hb] at w; exact absurd w.2 (by decide))]; exact h13) KX.rf)
  exact key _ i K rfl h12 h13 hi q
theorem c_X9_scanInt {Q : Option Value → am_H → Prop} (h12 : K.1 12 = nI n) (hn : n ≤ 2000) (h13 : K.1 13 = nI i) (h15 : K.1 15 = nI 0) (hi : i ≤ n) (q : ∀ K', K'.1 13 = nI (run dgB (K.2.1 9) n i) → K'.1 14 = nI (if run dgB (K.2.1 9) n i - i ≤ 4 then 3 else 5) → K'.1 15 = dvI (K.2.1 9) i (run dgB (K.2.1 9) n i - i) → KX K K' → Q none (cz z g T u X K' rf)) : AC am_P 1 20 125 [.ref 42] (cz z g T u X K rf) Q := by
  refine AC.of (ls := [_, _]) rfl ?_
  have hhi := run_hi (P := dgB) (x := K.2.1 9) hi
  have hlo := run_lo (P := dgB) (x := K.2.1 9) (n := n) (i := i)
  have key : ∀ m j K1, n - j = m → i ≤ j → run dgB (K.2.1 9) n i = run dgB (K.2.1 9) n j → K1.1 12 = nI n → K1.1 13 = nI j → K1.1 15 = dvI (K.2.1 9) i (j - i) → KX K K1 → j ≤ n → AW am_P 1 20 125 5 [some (.ref 42), some (.int (nI i))] [] (cz z g T u X K1 rf) Q := by
    intro m
    induction m with
    | zero =>
      intro j K1 hm hij hrj h12 h13 h15 hK1 hj
      have her : run dgB (K.2.1 9) n i = j := by rw [hrj]; exact run_n (by omega)
      refine aw rfl rfl ?_
      refine aw_getfE rfl zg_42 rfl (congrArg Value.int h13) ?_
      refine aw rfl rfl ?_
      refine aw_getfE rfl zg_42 rfl (congrArg Value.int h12) ?_
      refine aw_igen rfl (fun c13 => ?_) (fun c13 => by omega)
      refine aw rfl rfl ?_
      refine aw rfl rfl ?_
      refine aw_getfE rfl zg_42 rfl (congrArg Value.int h13) ?_
      refine aw rfl rfl ?_
      refine aw_subn rfl (by omega) ?_
      refine aw_c (v := nI 4) rfl (by decide) ?_
      refine aw_ilen rfl (fun c76 => ?_) (fun c76 => ?_)
      · refine aw_c (v := nI 3) rfl (by decide) ?_
        refine aw_putfU rfl zg_42 rfl rfl (by decide) zp_42_6 ?_
        refine aw_vret rfl rfl (q _ ?_ ?_ ?_ (hK1.tr (KX.up (by decide))))
        · show K1.1 13 = _
          rw [h13, her]
        · show nI 3 = _
          rw [her, if_pos c76]
        · show K1.1 15 = _
          rw [h15, her]
      · refine aw_c (v := nI 5) rfl (by decide) ?_
        refine aw rfl rfl ?_
        refine aw_putfU rfl zg_42 rfl rfl (by decide) zp_42_6 ?_
        refine aw_vret rfl rfl (q _ ?_ ?_ ?_ (hK1.tr (KX.up (by decide))))
        · show K1.1 13 = _
          rw [h13, her]
        · show nI 5 = _
          rw [her, if_neg c76]
        · show K1.1 15 = _
          rw [h15, her]
    | succ m ih =>
      intro j K1 hm hij hrj h12 h13 h15 hK1 hj
      have hb9 : K.2.1 9 j = K1.2.1 9 j := by rw [hK1.2]
      refine aw rfl rfl ?_
      refine aw_getfE rfl zg_42 rfl (congrArg Value.int h13) ?_
      refine aw rfl rfl ?_
      refine aw_getfE rfl zg_42 rfl (congrArg Value.int h12) ?_
      refine aw_igen rfl (fun c13 => by omega) (fun c13 => ?_)
      refine aw rfl rfl ?_
      refine aw_getf rfl zg_42 rfl ?_
      refine aw rfl rfl ?_
      refine aw_getfE rfl zg_42 rfl (congrArg Value.int h13) ?_
      refine aw_bald rfl zg_9 rfl (by omega) (by decide) ?_
      refine aw_cs (d1 := 0) (L1 := 0) rfl rfl (by decide) (by decide) (Nat.le_of_ble_eq_true rfl) (c_X9_isDigit (fun hb => ?_) (fun hb => ?_))
      · refine aw_eq rfl (fun c => absurd c (by decide)) (fun _ => ?_)
        refine aw rfl rfl ?_
        refine aw rfl rfl ?_
        refine aw_getfE rfl zg_42 rfl (congrArg Value.int h15) ?_
        refine aw_c (v := nI 10) rfl (by decide) ?_
        refine aw rfl rfl ?_
        refine aw rfl rfl ?_
        refine aw_getf rfl zg_42 rfl ?_
        refine aw rfl rfl ?_
        refine aw_getfE rfl zg_42 rfl (congrArg Value.int h13) ?_
        refine aw_bald rfl zg_9 rfl (by omega) (by decide) ?_
        refine aw rfl rfl ?_
        refine aw_c (v := nI 48) rfl (by decide) ?_
        refine aw rfl rfl ?_
        refine aw_putfU rfl zg_42 rfl rfl (by decide) zp_42_7 ?_
        refine aw rfl rfl ?_
        refine aw rfl rfl ?_
        refine aw_getfE rfl zg_42 rfl (congrArg Value.int h13) ?_
        refine aw_c (v := nI 1) rfl (by decide) ?_
        refine aw_addn rfl ?_
        refine aw_putfU rfl zg_42 rfl rfl (by decide) zp_42_5 ?_
        refine aw rfl rfl ?_
        refine ih (j + 1) _ (by omega) (by omega) (by rw [hrj]; exact run_s (by omega) (by rw [hb9]; exact hb)) h12 rfl ?_ ((hK1.tr (KX.up (by decide))).tr (KX.up (by decide))) (by omega)
        show dvI (K.2.1 9) i (j - i) * nI 10 + K1.2.1 9 j - nI 48 = dvI (K.2.1 9) i (j + 1 - i)
        rw [show j + 1 - i = (j - i) + 1 by omega, dvI, show i + (j - i) = j by omega, ← hb9]
      · refine aw_eq rfl (fun _ => ?_) (fun c => absurd (by decide) c)
        have her : run dgB (K.2.1 9) n i = j := by rw [hrj]; exact run_e (fun w => by rw [hb9, hb] at w; exact absurd w.2 (by decide))
        refine aw rfl rfl ?_
        refine aw rfl rfl ?_
        refine aw_getfE rfl zg_42 rfl (congrArg Value.int h13) ?_
        refine aw rfl rfl ?_
        refine aw_subn rfl (by omega) ?_
        refine aw_c (v := nI 4) rfl (by decide) ?_
        refine aw_ilen rfl (fun c76 => ?_) (fun c76 => ?_)
        · refine aw_c (v := nI 3) rfl (by decide) ?_
          refine aw_putfU rfl zg_42 rfl rfl (by decide) zp_42_6 ?_
          refine aw_vret rfl rfl (q _ ?_ ?_ ?_ (hK1.tr (KX.up (by decide))))
          · show K1.1 13 = _
            rw [h13, her]
          · show nI 3 = _
            rw [her, if_pos c76]
          · show K1.1 15 = _
            rw [h15, her]
        · refine aw_c (v := nI 5) rfl (by decide) ?_
          refine aw rfl rfl ?_
          refine aw_putfU rfl zg_42 rfl rfl (by decide) zp_42_6 ?_
          refine aw_vret rfl rfl (q _ ?_ ?_ ?_ (hK1.tr (KX.up (by decide))))
          · show K1.1 13 = _
            rw [h13, her]
          · show nI 5 = _
            rw [her, if_neg c76]
          · show K1.1 15 = _
            rw [h15, her]
  refine aw rfl rfl ?_
  refine aw_getfE rfl zg_42 rfl (congrArg Value.int h13) ?_
  refine aw_ist (ls' := [_, _]) rfl rfl ?_
  exact key _ i K rfl (Nat.le_refl _) rfl h12 h13 (by rw [Nat.sub_self]; exact h15) KX.rf hi
end C1
