/-! ===== numbers ===== -/
theorem n_1 : ¬ nI 1 = 0 := by decide
theorem n_neg (n : Nat) (h : n < 2147483648) : ¬ nI n < 0 := nI_pos h
theorem n_nle {a b : Nat} (h : a < b) (hb : b < 2147483648) : ¬ nI b ≤ nI a := nI_ge h hb
theorem n_m1 {n : Nat} (h : n < 2147483648) : ¬ nI n = -1 := by
  intro z
  have h1 := congrArg Int32.toInt z
  rw [nI_toInt h] at h1
  have h2 : (-1 : Int32).toInt = -1 := by decide
  omega
def n_held (v m : Int32) : Int32 := if -m < (if v < m then v else m) then (if v < m then v else m) else -m
/-- SIXES lies at place 1 -/
def am_six (h : am_H) : Prop := h.2.2 1 = .inr (0, 11, .inl (fun j => am_sl.getD j 0))
theorem am_sl_at : ∀ n, n ≤ 10 → am_sl.getD n 0 = nI (6 ^ n) := by
  intro n hn
  have : ∀ k : Fin 11, am_sl.getD k.val 0 = nI (6 ^ k.val) := by decide
  exact this ⟨n, by omega⟩
/-! ===== StoneHome: the static helpers ===== -/
theorem c_X10_lieOf {h : am_H} {Q : Option Value → am_H → Prop} {s f : Nat} (q : Q (some (.int (nI (s * 3 + f)))) h) : AC am_P 0 0 131 [.int (nI s), .int (nI f)] h Q := by
  refine AC.of (ls := [_, _]) rfl ?_
  refine aw rfl rfl ?_
  refine aw_c (v := nI 3) rfl (by decide) ?_
  refine aw rfl rfl ?_
  refine aw rfl rfl ?_
  refine aw rfl rfl ?_
  exact aw_iret rfl rfl (by rw [pk_mul, nI_add]; exact q)
theorem c_X10_squareOf {h : am_H} {Q : Option Value → am_H → Prop} {a c : Nat} (q : Q (some (.int (nI (c * 8 + a)))) h) : AC am_P 0 0 130 [.int (nI a), .int (nI c)] h Q := by
  refine AC.of (ls := [_, _]) rfl ?_
  refine aw rfl rfl ?_
  refine aw_c (v := nI 8) rfl (by decide) ?_
  refine aw rfl rfl ?_
  refine aw rfl rfl ?_
  refine aw rfl rfl ?_
  exact aw_iret rfl rfl (by rw [pk_mul, nI_add]; exact q)
theorem c_X10_alongOf {h : am_H} {Q : Option Value → am_H → Prop} {s : Nat} (hs : s < 2147483648) (q : Q (some (.int (nI (s % 8)))) h) : AC am_P 0 0 138 [.int (nI s)] h Q := by
  refine AC.of (ls := [_]) rfl ?_
  refine aw rfl rfl ?_
  refine aw_c (v := nI 8) rfl (by decide) ?_
  refine aw_irem rfl (by decide) ?_
  exact aw_iret rfl rfl (by rw [pk_rem hs (by decide) (by decide)]; exact q)
theorem c_X10_acrossOf {h : am_H} {Q : Option Value → am_H → Prop} {s : Nat} (hs : s < 2147483648) (q : Q (some (.int (nI (s / 8)))) h) : AC am_P 0 0 139 [.int (nI s)] h Q := by
  refine AC.of (ls := [_]) rfl ?_
  refine aw rfl rfl ?_
  refine aw_c (v := nI 8) rfl (by decide) ?_
  refine aw_idiv rfl (by decide) ?_
  exact aw_iret rfl rfl (by rw [pk_div hs (by decide) (by decide)]; exact q)
theorem c_X10_isSpan {h : am_H} {Q : Option Value → am_H → Prop} {x : Int32} (q1 : ∀ n : Nat, x = nI n → n ≤ 10 → Q (some (.int (nI 1))) h) (q0 : (x < 0 ∨ nI 10 < x) → Q (some (.int (nI 0))) h) : AC am_P 0 0 154 [.int x] h Q := by
  refine AC.of (ls := [_]) rfl ?_
  refine aw rfl rfl ?_
  refine aw_lt rfl (fun c1 => ?_) (fun c1 => ?_)
  · refine aw_c (v := nI 0) rfl (by decide) ?_
    exact aw_iret rfl rfl (q0 (Or.inl c1))
  · refine aw rfl rfl ?_
    refine aw_c (v := nI 10) rfl (by decide) ?_
    refine aw_igt rfl (fun c7 => ?_) (fun c7 => ?_)
    · refine aw_c (v := nI 0) rfl (by decide) ?_
      exact aw_iret rfl rfl (q0 (Or.inr c7))
    · refine aw_c (v := nI 1) rfl (by decide) ?_
      refine aw rfl rfl ?_
      exact aw_iret rfl rfl (by obtain ⟨j, hj, e⟩ := nI_of2 (M := nI 10) (n := 10) rfl c1 (Int32.not_lt.mp c7); exact q1 j e hj)
theorem c_X10_held {h : am_H} {Q : Option Value → am_H → Prop} {v m : Int32} (q : Q (some (.int (n_held v m))) h) : AC am_P 1 19 145 [.int v, .int m] h Q := by
  refine AC.of (ls := [_, _]) rfl ?_
  refine aw rfl rfl ?_
  refine aw rfl rfl ?_
  refine aw rfl rfl ?_
  refine aw rfl rfl ?_
  refine aw rfl rfl ?_
  refine aw rfl rfl ?_
  exact aw_iret rfl rfl q
theorem c_X10_sixesOf {h : am_H} {Q : Option Value → am_H → Prop} {n : Nat} (h6 : am_six h) (hn : n ≤ 10) (q : Q (some (.int (nI (6 ^ n)))) h) : AC am_P 0 0 156 [.int (nI n)] h Q := by
  refine AC.of (ls := [_]) rfl ?_
  have h6 := h6
  unfold am_six at h6
  refine aw rfl rfl ?_
  refine aw_lt rfl (fun c1 => absurd c1 (n_neg n (by omega))) (fun c1 => ?_)
  refine aw rfl rfl ?_
  refine aw rfl rfl ?_
  refine aw_alen rfl (by repeat first | assumption | exact hg_eq | refine hg_ne (by first | assumption | omega) ?_) rfl ?_
  refine aw_ige rfl (fun c9 => absurd c9 (n_nle (by omega) (by decide))) (fun c9 => ?_)
  refine aw rfl rfl ?_
  refine aw rfl rfl ?_
  refine aw_iald (k := n) rfl (by repeat first | assumption | exact hg_eq | refine hg_ne (by first | assumption | omega) ?_) rfl (by omega) (by decide) ?_
  refine aw rfl rfl ?_
  exact aw_iret rfl rfl (by rw [am_sl_at n hn]; exact q)
