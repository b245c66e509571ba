/-! ===== constructors: a heap as a list of cells ===== -/
def bh (f : Nat → am_C) (m : Nat) (l : List am_C) : am_H := (8 + l.length, m, fun p => if p < 8 then f p else am_nth l (p - 8) (f p))
theorem am_nth_a1 {α : Type} : ∀ (l c : List α) (i : Nat) (d : α), i < l.length → am_nth (l ++ c) i d = am_nth l i d := by
  intro l
  induction l with
  | nil => intro c i d h; exact absurd h (Nat.not_lt_zero i)
  | cons x t ih =>
    intro c i d h
    cases i with
    | zero => rfl
    | succ i => exact ih c i d (Nat.lt_of_succ_lt_succ h)
theorem am_nth_a2 {α : Type} : ∀ (l c : List α) (i : Nat) (d : α), am_nth (l ++ c) (l.length + i) d = am_nth c i d := by
  intro l
  induction l with
  | nil => intro c i d; rw [List.length_nil, Nat.zero_add]; rfl
  | cons x t ih =>
    intro c i d
    rw [List.length_cons, show t.length + 1 + i = (t.length + i) + 1 by omega]
    exact ih c i d
section B1
variable {f : Nat → am_C} {m b i j k : Nat} {l c c' : List am_C} {x : am_C}
theorem bh_g (hl : 8 + l.length = b) (hc : am_nth c i am_nil = x) (hi : i < c.length) : (bh f m (l ++ c)).2.2 (b + i) = x := by
  show (if b + i < 8 then f (b + i) else am_nth (l ++ c) (b + i - 8) (f (b + i))) = x
  rw [if_neg (by omega), show b + i - 8 = l.length + i by omega, am_nth_a2, am_nth_d _ _ _ am_nil hi]
  exact hc
theorem bh_u (hl : 8 + l.length = b) (hi : i < c.length) : am_up (bh f m (l ++ c)) (b + i) x = bh f m (l ++ c.set i x) := by
  refine hH_ext ?_ rfl (fun p => ?_)
  · show 8 + (l ++ c).length = 8 + (l ++ c.set i x).length
    rw [List.length_append, List.length_append, List.length_set]
  · show va_up (bh f m (l ++ c)).2.2 (b + i) x p = _
    by_cases e : p = b + i
    · subst e
      rw [vu_at]
      refine (bh_g hl ?_ (by rw [List.length_set]; exact hi)).symm
      rw [am_nth_set _ _ _ _ _ hi, if_pos rfl]
    · rw [vu_ot e]
      show (if p < 8 then f p else am_nth (l ++ c) (p - 8) (f p)) = if p < 8 then f p else am_nth (l ++ c.set i x) (p - 8) (f p)
      by_cases h8 : p < 8
      · rw [if_pos h8, if_pos h8]
      · rw [if_neg h8, if_neg h8]
        by_cases h9 : p - 8 < l.length
        · rw [am_nth_a1 _ _ _ _ h9, am_nth_a1 _ _ _ _ h9]
        · rw [show p - 8 = l.length + (p - 8 - l.length) by omega, am_nth_a2, am_nth_a2, am_nth_set _ _ _ _ _ hi, if_neg (by omega)]
theorem bh_n : am_nw (bh f m l) k x = bh f (m + k) (l ++ [x]) := by
  refine hH_ext ?_ rfl (fun p => ?_)
  · show 8 + l.length + 1 = 8 + (l ++ [x]).length
    rw [List.length_append]; rfl
  · show va_up (bh f m l).2.2 (8 + l.length) x p = _
    by_cases e : p = 8 + l.length
    · subst e
      rw [vu_at]
      exact (bh_g (c := [x]) (i := 0) rfl rfl (Nat.zero_lt_one)).symm
    · rw [vu_ot e]
      show (if p < 8 then f p else am_nth l (p - 8) (f p)) = if p < 8 then f p else am_nth (l ++ [x]) (p - 8) (f p)
      by_cases h8 : p < 8
      · rw [if_pos h8, if_pos h8]
      · rw [if_neg h8, if_neg h8]
        by_cases h9 : p - 8 < l.length
        · rw [am_nth_a1 _ _ _ _ h9]
        · rw [am_nth_o l _ _ (by omega), am_nth_o (l ++ [x]) _ _ (by rw [List.length_append]; show l.length + 1 ≤ _; omega)]
theorem bh_hl (hl : 8 + l.length = b) (hc : c.length = j) : 8 + (l ++ c).length = b + j := by rw [List.length_append]; omega
variable {d L M pc nx a b0 idx : Nat} {ls : List (Option Value)} {Q : Option Value → am_H → Prop} {r st : List Value}
theorem aw_bna {n : Nat} {y : Int32} {ty : ArrayType} (hf : am_at (am_P M).2.2.2 pc = some (.newarray ty, nx, a, b0)) (hx : y = nI n) (hn : n ≤ 1000000) (hl : 8 + l.length = b) (hc : c.length = j) (he : c ++ [am_z (am_aty ty) n] = c') (k : AW am_P d L M nx ls (.ref (b + j) :: r) (bh f (m + n) (l ++ c')) Q) : AW am_P d L M pc ls (.int y :: r) (bh f m (l ++ c)) Q := by
  rw [← he, ← List.append_assoc, ← bh_n, ← bh_hl hl hc] at k
  refine aw hf ?_ k
  subst hx
  show (if nI n < 0 ∨ 1000000 < (nI n).toNatClampNeg then none else some (.inl (nx, ls, .ref (bh f m (l ++ c)).1 :: r, am_nw (bh f m (l ++ c)) (nI n).toNatClampNeg (am_z (am_aty ty) (nI n).toNatClampNeg))) : am_O) = _
  rw [if_neg (fun z => z.elim (nI_pos (by omega)) (fun z => by rw [nI_clamp (by omega)] at z; omega)), nI_clamp (by omega)]
  rfl
theorem aw_bnq {n : Nat} {y : Int32} (hf : am_at (am_P M).2.2.2 pc = some (.anewarray idx, nx, a, b0)) (hx : y = nI n) (hn : n ≤ 1000000) (hl : 8 + l.length = b) (hc : c.length = j) (he : c ++ [.inr (a, n, .inr (.inr (fun _ => none)))] = c') (k : AW am_P d L M nx ls (.ref (b + j) :: r) (bh f (m + n) (l ++ c')) Q) : AW am_P d L M pc ls (.int y :: r) (bh f m (l ++ c)) Q := by
  rw [← he, ← List.append_assoc, ← bh_n, ← bh_hl hl hc] at k
  refine aw hf ?_ k
  subst hx
  show (if nI n < 0 ∨ 1000000 < (nI n).toNatClampNeg then none else some (.inl (nx, ls, .ref (bh f m (l ++ c)).1 :: r, am_nw (bh f m (l ++ c)) (nI n).toNatClampNeg (.inr (a, (nI n).toNatClampNeg, .inr (.inr (fun _ => none)))))) : am_O) = _
  rw [if_neg (fun z => z.elim (nI_pos (by omega)) (fun z => by rw [nI_clamp (by omega)] at z; omega)), nI_clamp (by omega)]
  rfl
theorem aw_bnn {n : Nat} {fs : List Value} (hf : am_at (am_P M).2.2.2 pc = some (.new idx, nx, a, b0)) (hl : 8 + l.length = b) (hc : c.length = j) (hd : am_df a = fs) (hn : am_nf a = n) (k : AW am_P d L M nx ls (.ref (b + j) :: st) (bh f (m + n) ((l ++ c) ++ [.inl (a, fs)])) Q) : AW am_P d L M pc ls st (bh f m (l ++ c)) Q := by
  subst hd hn
  rw [← bh_n, ← bh_hl hl hc] at k
  exact aw hf rfl k
theorem aw_bp {fs : List Value} {v : Value} (hf : am_at (am_P M).2.2.2 pc = some (.putfield idx, nx, a, b0)) (hl : 8 + l.length = b) (hi : i < c.length) (hc : am_nth c i am_nil = .inl (a, fs)) (h1 : Nat.blt (b0 / 8) fs.length = true) (h2 : am_fit (b0 % 4) v = true) (he : c.set i (.inl (a, fs.set (b0 / 8) v)) = c') (k : AW am_P d L M nx ls r (bh f m (l ++ c')) Q) : AW am_P d L M pc ls (v :: .ref (b + i) :: r) (bh f m (l ++ c)) Q := aw_putfU hf (bh_g hl hc hi) h1 h2 (by omega) (bh_u hl hi) (he ▸ k)
theorem aw_bg {fs : List Value} {v : Value} (hf : am_at (am_P M).2.2.2 pc = some (.getfield idx, nx, a, b0)) (hl : 8 + l.length = b) (hi : i < c.length) (hc : am_nth c i am_nil = .inl (a, fs)) (hv : fs[b0]? = some v) (k : AW am_P d L M nx ls (v :: r) (bh f m (l ++ c)) Q) : AW am_P d L M pc ls (.ref (b + i) :: r) (bh f m (l ++ c)) Q := aw_getf hf (bh_g hl hc hi) hv k
theorem aw_bq {k n y t : Nat} {z : Int32} {g : Nat → Option Nat} {w : am_C} (hf : am_at (am_P M).2.2.2 pc = some (.aastore, nx, a, b0)) (hl : 8 + l.length = b) (hi : i < c.length) (hc : am_nth c i am_nil = .inr (t, n, .inr (.inr g))) (hj : z = nI k) (hk : k < n) (hn : n < 2147483648) (hy : y < c.length) (hw : am_nth c y am_nil = w) (he : am_elt t w = true) (hc' : c.set i (.inr (t, n, .inr (.inr (va_up g k (some (b + y)))))) = c') (kk : AW am_P d L M nx ls r (bh f m (l ++ c')) Q) : AW am_P d L M pc ls (.ref (b + y) :: .int z :: .ref (b + i) :: r) (bh f m (l ++ c)) Q := aw_aastU hf (bh_g hl hc hi) hj hk hn (by omega) (by omega) (by show b + y < 8 + (l ++ c).length; rw [List.length_append]; omega) (by rw [bh_g hl hw hy]; exact he) (bh_u hl hi) (hc' ▸ kk)
theorem aw_as {c2 : List am_C} (he : c ++ c2 = c') (k : AW am_P d L M pc ls st (bh f m (l ++ c')) Q) : AW am_P d L M pc ls st (bh f m ((l ++ c) ++ c2)) Q := by
  rw [List.append_assoc, he]
  exact k
theorem aw_sa {c0 c1 : List am_C} (he : c0 ++ c1 = c) (k : AW am_P d L M pc ls st (bh f m ((l ++ c0) ++ c1)) Q) : AW am_P d L M pc ls st (bh f m (l ++ c)) Q := by
  rw [List.append_assoc, he] at k
  exact k
end B1
section C1
variable {f : Nat → am_C} {m b : Nat} {l : List am_C} {Q : Option Value → am_H → Prop}
theorem c_X6_init (hl : 8 + l.length = b) (q : ∀ m', m' = m + 0 → Q none (bh f m' (l ++ [.inl (6, [.int (nI 0), .int (nI 0), .int (nI 0), .int (nI 0), .int (nI 0), .int (nI 0), .int (nI 0), .int (nI 0)])]))) : AC am_P 1 14 80 [.ref (b + 0)] (bh f m (l ++ [.inl (6, [.int 0, .int 0, .int 0, .int 0, .int 0, .int 0, .int 0, .int 0])])) Q := by
  refine AC.of (ls := [_]) rfl ?_
  refine aw rfl rfl ?_
  refine aw rfl rfl ?_
  refine aw rfl rfl ?_
  refine aw_c (v := nI 0) rfl (by decide) ?_
  refine aw_bp (i := 0) (c' := [.inl (6, [.int (nI 0), .int 0, .int 0, .int 0, .int 0, .int 0, .int 0, .int 0])]) rfl hl (Nat.le_of_ble_eq_true rfl) rfl rfl rfl rfl ?_
  refine aw rfl rfl ?_
  refine aw_c (v := nI 0) rfl (by decide) ?_
  refine aw_bp (i := 0) (c' := [.inl (6, [.int (nI 0), .int (nI 0), .int 0, .int 0, .int 0, .int 0, .int 0, .int 0])]) rfl hl (Nat.le_of_ble_eq_true rfl) rfl rfl rfl rfl ?_
  refine aw rfl rfl ?_
  refine aw_c (v := nI 0) rfl (by decide) ?_
  refine aw_bp (i := 0) (c' := [.inl (6, [.int (nI 0), .int (nI 0), .int (nI 0), .int 0, .int 0, .int 0, .int 0, .int 0])]) rfl hl (Nat.le_of_ble_eq_true rfl) rfl rfl rfl rfl ?_
  refine aw rfl rfl ?_
  refine aw_c (v := nI 0) rfl (by decide) ?_
  refine aw_bp (i := 0) (c' := [.inl (6, [.int (nI 0), .int (nI 0), .int (nI 0), .int (nI 0), .int 0, .int 0, .int 0, .int 0])]) rfl hl (Nat.le_of_ble_eq_true rfl) rfl rfl rfl rfl ?_
  refine aw rfl rfl ?_
  refine aw_c (v := nI 0) rfl (by decide) ?_
  refine aw_bp (i := 0) (c' := [.inl (6, [.int (nI 0), .int (nI 0), .int (nI 0), .int (nI 0), .int (nI 0), .int 0, .int 0, .int 0])]) rfl hl (Nat.le_of_ble_eq_true rfl) rfl rfl rfl rfl ?_
  refine aw rfl rfl ?_
  refine aw_c (v := nI 0) rfl (by decide) ?_
  refine aw_bp (i := 0) (c' := [.inl (6, [.int (nI 0), .int (nI 0), .int (nI 0), .int (nI 0), .int (nI 0), .int (nI 0), .int 0, .int 0])]) rfl hl (Nat.le_of_ble_eq_true rfl) rfl rfl rfl rfl ?_
  refine aw rfl rfl ?_
  refine aw_c (v := nI 0) rfl (by decide) ?_
  refine aw_bp (i := 0) (c' := [.inl (6, [.int (nI 0), .int (nI 0), .int (nI 0), .int (nI 0), .int (nI 0), .int (nI 0), .int (nI 0), .int 0])]) rfl hl (Nat.le_of_ble_eq_true rfl) rfl rfl rfl rfl ?_
  refine aw rfl rfl ?_
  refine aw_c (v := nI 0) rfl (by decide) ?_
  refine aw_bp (i := 0) (c' := [.inl (6, [.int (nI 0), .int (nI 0), .int (nI 0), .int (nI 0), .int (nI 0), .int (nI 0), .int (nI 0), .int (nI 0)])]) rfl hl (Nat.le_of_ble_eq_true rfl) rfl rfl rfl rfl ?_
  exact aw_vret rfl rfl (q _ (by omega))
theorem c_X1_init (hl : 8 + l.length = b) (q : ∀ m', m' = m + 474 → Q none (bh f m' (l ++ [.inl (1, [.ref (b + 1), .int (nI 0), .ref (b + 2), .int (nI 0), .ref (b + 3), .int (nI 0), .ref (b + 4), .ref (b + 5)]), .inr (0, 400, .inl (fun _ => 0)), .inr (0, 3, .inl (fun _ => 0)), .inr (0, 32, .inl (fun _ => 0)), .inr (0, 7, .inl (fun _ => 0)), .inr (0, 32, .inl (fun _ => 0))]))) : AC am_P 1 14 12 [.ref (b + 0)] (bh f m (l ++ [.inl (1, [.null, .int 0, .null, .int 0, .null, .int 0, .null, .null])])) Q := by
  refine AC.of (ls := [_]) rfl ?_
  refine aw rfl rfl ?_
  refine aw rfl rfl ?_
  refine aw rfl rfl ?_
  refine aw_c (v := nI 400) rfl (by decide) ?_
  refine aw_bna (n := 400) (j := 1) (c' := [.inl (1, [.null, .int 0, .null, .int 0, .null, .int 0, .null, .null]), .inr (0, 400, .inl (fun _ => 0))]) rfl rfl (by decide) hl rfl rfl ?_
  refine aw_bp (i := 0) (c' := [.inl (1, [.ref (b + 1), .int 0, .null, .int 0, .null, .int 0, .null, .null]), .inr (0, 400, .inl (fun _ => 0))]) rfl hl (Nat.le_of_ble_eq_true rfl) rfl rfl rfl rfl ?_
  refine aw rfl rfl ?_
  refine aw_c (v := nI 0) rfl (by decide) ?_
  refine aw_bp (i := 0) (c' := [.inl (1, [.ref (b + 1), .int (nI 0), .null, .int 0, .null, .int 0, .null, .null]), .inr (0, 400, .inl (fun _ => 0))]) rfl hl (Nat.le_of_ble_eq_true rfl) rfl rfl rfl rfl ?_
  refine aw rfl rfl ?_
  refine aw_c (v := nI 3) rfl (by decide) ?_
  refine aw_bna (n := 3) (j := 2) (c' := [.inl (1, [.ref (b + 1), .int (nI 0), .null, .int 0, .null, .int 0, .null, .null]), .inr (0, 400, .inl (fun _ => 0)), .inr (0, 3, .inl (fun _ => 0))]) rfl rfl (by decide) hl rfl rfl ?_
  refine aw_bp (i := 0) (c' := [.inl (1, [.ref (b + 1), .int (nI 0), .ref (b + 2), .int 0, .null, .int 0, .null, .null]), .inr (0, 400, .inl (fun _ => 0)), .inr (0, 3, .inl (fun _ => 0))]) rfl hl (Nat.le_of_ble_eq_true rfl) rfl rfl rfl rfl ?_
  refine aw rfl rfl ?_
  refine aw_c (v := nI 0) rfl (by decide) ?_
  refine aw_bp (i := 0) (c' := [.inl (1, [.ref (b + 1), .int (nI 0), .ref (b + 2), .int (nI 0), .null, .int 0, .null, .null]), .inr (0, 400, .inl (fun _ => 0)), .inr (0, 3, .inl (fun _ => 0))]) rfl hl (Nat.le_of_ble_eq_true rfl) rfl rfl rfl rfl ?_
  refine aw rfl rfl ?_
  refine aw_c (v := nI 32) rfl (by decide) ?_
  refine aw_bna (n := 32) (j := 3) (c' := [.inl (1, [.ref (b + 1), .int (nI 0), .ref (b + 2), .int (nI 0), .null, .int 0, .null, .null]), .inr (0, 400, .inl (fun _ => 0)), .inr (0, 3, .inl (fun _ => 0)), .inr (0, 32, .inl (fun _ => 0))]) rfl rfl (by decide) hl rfl rfl ?_
  refine aw_bp (i := 0) (c' := [.inl (1, [.ref (b + 1), .int (nI 0), .ref (b + 2), .int (nI 0), .ref (b + 3), .int 0, .null, .null]), .inr (0, 400, .inl (fun _ => 0)), .inr (0, 3, .inl (fun _ => 0)), .inr (0, 32, .inl (fun _ => 0))]) rfl hl (Nat.le_of_ble_eq_true rfl) rfl rfl rfl rfl ?_
  refine aw rfl rfl ?_
  refine aw_c (v := nI 0) rfl (by decide) ?_
  refine aw_bp (i := 0) (c' := [.inl (1, [.ref (b + 1), .int (nI 0), .ref (b + 2), .int (nI 0), .ref (b + 3), .int (nI 0), .null, .null]), .inr (0, 400, .inl (fun _ => 0)), .inr (0, 3, .inl (fun _ => 0)), .inr (0, 32, .inl (fun _ => 0))]) rfl hl (Nat.le_of_ble_eq_true rfl) rfl rfl rfl rfl ?_
  refine aw rfl rfl ?_
  refine aw_c (v := nI 7) rfl (by decide) ?_
  refine aw_bna (n := 7) (j := 4) (c' := [.inl (1, [.ref (b + 1), .int (nI 0), .ref (b + 2), .int (nI 0), .ref (b + 3), .int (nI 0), .null, .null]), .inr (0, 400, .inl (fun _ => 0)), .inr (0, 3, .inl (fun _ => 0)), .inr (0, 32, .inl (fun _ => 0)), .inr (0, 7, .inl (fun _ => 0))]) rfl rfl (by decide) hl rfl rfl ?_
  refine aw_bp (i := 0) (c' := [.inl (1, [.ref (b + 1), .int (nI 0), .ref (b + 2), .int (nI 0), .ref (b + 3), .int (nI 0), .ref (b + 4), .null]), .inr (0, 400, .inl (fun _ => 0)), .inr (0, 3, .inl (fun _ => 0)), .inr (0, 32, .inl (fun _ => 0)), .inr (0, 7, .inl (fun _ => 0))]) rfl hl (Nat.le_of_ble_eq_true rfl) rfl rfl rfl rfl ?_
  refine aw rfl rfl ?_
  refine aw_c (v := nI 32) rfl (by decide) ?_
  refine aw_bna (n := 32) (j := 5) (c' := [.inl (1, [.ref (b + 1), .int (nI 0), .ref (b + 2), .int (nI 0), .ref (b + 3), .int (nI 0), .ref (b + 4), .null]), .inr (0, 400, .inl (fun _ => 0)), .inr (0, 3, .inl (fun _ => 0)), .inr (0, 32, .inl (fun _ => 0)), .inr (0, 7, .inl (fun _ => 0)), .inr (0, 32, .inl (fun _ => 0))]) rfl rfl (by decide) hl rfl rfl ?_
  refine aw_bp (i := 0) (c' := [.inl (1, [.ref (b + 1), .int (nI 0), .ref (b + 2), .int (nI 0), .ref (b + 3), .int (nI 0), .ref (b + 4), .ref (b + 5)]), .inr (0, 400, .inl (fun _ => 0)), .inr (0, 3, .inl (fun _ => 0)), .inr (0, 32, .inl (fun _ => 0)), .inr (0, 7, .inl (fun _ => 0)), .inr (0, 32, .inl (fun _ => 0))]) rfl hl (Nat.le_of_ble_eq_true rfl) rfl rfl rfl rfl ?_
  exact aw_vret rfl rfl (q _ (by omega))
theorem c_X7_init (hl : 8 + l.length = b) (q : ∀ m', m' = m + 624 → Q none (bh f m' (l ++ [.inl (7, [.int (nI 0), .int (nI 0), .ref (b + 1), .int (nI 1), .int (nI 0), .ref (b + 2), .ref (b + 3), .ref (b + 4), .ref (b + 5), .ref (b + 6), .ref (b + 7), .ref (b + 13), .ref (b + 14), .int (nI 0), .int (nI 5), .int (nI 0)]), .inr (0, 32, .inl (fun _ => 0)), .inr (0, 4, .inl (fun _ => 0)), .inr (0, 25, .inl (fun _ => 0)), .inr (0, 25, .inl (fun _ => 0)), .inr (0, 25, .inl (fun _ => 0)), .inr (0, 25, .inl (fun _ => 0)), .inl (1, [.ref (b + 8), .int (nI 0), .ref (b + 9), .int (nI 0), .ref (b + 10), .int (nI 0), .ref (b + 11), .ref (b + 12)]), .inr (0, 400, .inl (fun _ => 0)), .inr (0, 3, .inl (fun _ => 0)), .inr (0, 32, .inl (fun _ => 0)), .inr (0, 7, .inl (fun _ => 0)), .inr (0, 32, .inl (fun _ => 0)), .inr (0, 3, .inl (fun _ => 0)), .inr (0, 3, .inl (fun _ => 0))]))) : AC am_P 2 34 84 [.ref (b + 0)] (bh f m (l ++ [.inl (7, [.int 0, .int 0, .null, .int 0, .int 0, .null, .null, .null, .null, .null, .null, .null, .null, .int 0, .int 0, .int 0])])) Q := by
  refine AC.of (ls := [_]) rfl ?_
  refine aw rfl rfl ?_
  refine aw rfl rfl ?_
  refine aw rfl rfl ?_
  refine aw_c (v := nI 0) rfl (by decide) ?_
  refine aw_bp (i := 0) (c' := [.inl (7, [.int (nI 0), .int 0, .null, .int 0, .int 0, .null, .null, .null, .null, .null, .null, .null, .null, .int 0, .int 0, .int 0])]) rfl hl (Nat.le_of_ble_eq_true rfl) rfl rfl rfl rfl ?_
  refine aw rfl rfl ?_
  refine aw_c (v := nI 0) rfl (by decide) ?_
  refine aw_bp (i := 0) (c' := [.inl (7, [.int (nI 0), .int (nI 0), .null, .int 0, .int 0, .null, .null, .null, .null, .null, .null, .null, .null, .int 0, .int 0, .int 0])]) rfl hl (Nat.le_of_ble_eq_true rfl) rfl rfl rfl rfl ?_
  refine aw rfl rfl ?_
  refine aw_c (v := nI 32) rfl (by decide) ?_
  refine aw_bna (n := 32) (j := 1) (c' := [.inl (7, [.int (nI 0), .int (nI 0), .null, .int 0, .int 0, .null, .null, .null, .null, .null, .null, .null, .null, .int 0, .int 0, .int 0]), .inr (0, 32, .inl (fun _ => 0))]) rfl rfl (by decide) hl rfl rfl ?_
  refine aw_bp (i := 0) (c' := [.inl (7, [.int (nI 0), .int (nI 0), .ref (b + 1), .int 0, .int 0, .null, .null, .null, .null, .null, .null, .null, .null, .int 0, .int 0, .int 0]), .inr (0, 32, .inl (fun _ => 0))]) rfl hl (Nat.le_of_ble_eq_true rfl) rfl rfl rfl rfl ?_
  refine aw rfl rfl ?_
  refine aw_c (v := nI 1) rfl (by decide) ?_
  refine aw_bp (i := 0) (c' := [.inl (7, [.int (nI 0), .int (nI 0), .ref (b + 1), .int (nI 1), .int 0, .null, .null, .null, .null, .null, .null, .null, .null, .int 0, .int 0, .int 0]), .inr (0, 32, .inl (fun _ => 0))]) rfl hl (Nat.le_of_ble_eq_true rfl) rfl rfl rfl rfl ?_
  refine aw rfl rfl ?_
  refine aw_c (v := nI 0) rfl (by decide) ?_
  refine aw_bp (i := 0) (c' := [.inl (7, [.int (nI 0), .int (nI 0), .ref (b + 1), .int (nI 1), .int (nI 0), .null, .null, .null, .null, .null, .null, .null, .null, .int 0, .int 0, .int 0]), .inr (0, 32, .inl (fun _ => 0))]) rfl hl (Nat.le_of_ble_eq_true rfl) rfl rfl rfl rfl ?_
  refine aw rfl rfl ?_
  refine aw_c (v := nI 4) rfl (by decide) ?_
  refine aw_bna (n := 4) (j := 2) (c' := [.inl (7, [.int (nI 0), .int (nI 0), .ref (b + 1), .int (nI 1), .int (nI 0), .null, .null, .null, .null, .null, .null, .null, .null, .int 0, .int 0, .int 0]), .inr (0, 32, .inl (fun _ => 0)), .inr (0, 4, .inl (fun _ => 0))]) rfl rfl (by decide) hl rfl rfl ?_
  refine aw_bp (i := 0) (c' := [.inl (7, [.int (nI 0), .int (nI 0), .ref (b + 1), .int (nI 1), .int (nI 0), .ref (b + 2), .null, .null, .null, .null, .null, .null, .null, .int 0, .int 0, .int 0]), .inr (0, 32, .inl (fun _ => 0)), .inr (0, 4, .inl (fun _ => 0))]) rfl hl (Nat.le_of_ble_eq_true rfl) rfl rfl rfl rfl ?_
  refine aw rfl rfl ?_
  refine aw_c (v := nI 25) rfl (by decide) ?_
  refine aw_bna (n := 25) (j := 3) (c' := [.inl (7, [.int (nI 0), .int (nI 0), .ref (b + 1), .int (nI 1), .int (nI 0), .ref (b + 2), .null, .null, .null, .null, .null, .null, .null, .int 0, .int 0, .int 0]), .inr (0, 32, .inl (fun _ => 0)), .inr (0, 4, .inl (fun _ => 0)), .inr (0, 25, .inl (fun _ => 0))]) rfl rfl (by decide) hl rfl rfl ?_
  refine aw_bp (i := 0) (c' := [.inl (7, [.int (nI 0), .int (nI 0), .ref (b + 1), .int (nI 1), .int (nI 0), .ref (b + 2), .ref (b + 3), .null, .null, .null, .null, .null, .null, .int 0, .int 0, .int 0]), .inr (0, 32, .inl (fun _ => 0)), .inr (0, 4, .inl (fun _ => 0)), .inr (0, 25, .inl (fun _ => 0))]) rfl hl (Nat.le_of_ble_eq_true rfl) rfl rfl rfl rfl ?_
  refine aw rfl rfl ?_
  refine aw_c (v := nI 25) rfl (by decide) ?_
  refine aw_bna (n := 25) (j := 4) (c' := [.inl (7, [.int (nI 0), .int (nI 0), .ref (b + 1), .int (nI 1), .int (nI 0), .ref (b + 2), .ref (b + 3), .null, .null, .null, .null, .null, .null, .int 0, .int 0, .int 0]), .inr (0, 32, .inl (fun _ => 0)), .inr (0, 4, .inl (fun _ => 0)), .inr (0, 25, .inl (fun _ => 0)), .inr (0, 25, .inl (fun _ => 0))]) rfl rfl (by decide) hl rfl rfl ?_
  refine aw_bp (i := 0) (c' := [.inl (7, [.int (nI 0), .int (nI 0), .ref (b + 1), .int (nI 1), .int (nI 0), .ref (b + 2), .ref (b + 3), .ref (b + 4), .null, .null, .null, .null, .null, .int 0, .int 0, .int 0]), .inr (0, 32, .inl (fun _ => 0)), .inr (0, 4, .inl (fun _ => 0)), .inr (0, 25, .inl (fun _ => 0)), .inr (0, 25, .inl (fun _ => 0))]) rfl hl (Nat.le_of_ble_eq_true rfl) rfl rfl rfl rfl ?_
  refine aw rfl rfl ?_
  refine aw_c (v := nI 25) rfl (by decide) ?_
  refine aw_bna (n := 25) (j := 5) (c' := [.inl (7, [.int (nI 0), .int (nI 0), .ref (b + 1), .int (nI 1), .int (nI 0), .ref (b + 2), .ref (b + 3), .ref (b + 4), .null, .null, .null, .null, .null, .int 0, .int 0, .int 0]), .inr (0, 32, .inl (fun _ => 0)), .inr (0, 4, .inl (fun _ => 0)), .inr (0, 25, .inl (fun _ => 0)), .inr (0, 25, .inl (fun _ => 0)), .inr (0, 25, .inl (fun _ => 0))]) rfl rfl (by decide) hl rfl rfl ?_
  refine aw_bp (i := 0) (c' := [.inl (7, [.int (nI 0), .int (nI 0), .ref (b + 1), .int (nI 1), .int (nI 0), .ref (b + 2), .ref (b + 3), .ref (b + 4), .ref (b + 5), .null, .null, .null, .null, .int 0, .int 0, .int 0]), .inr (0, 32, .inl (fun _ => 0)), .inr (0, 4, .inl (fun _ => 0)), .inr (0, 25, .inl (fun _ => 0)), .inr (0, 25, .inl (fun _ => 0)), .inr (0, 25, .inl (fun _ => 0))]) rfl hl (Nat.le_of_ble_eq_true rfl) rfl rfl rfl rfl ?_
  refine aw rfl rfl ?_
  refine aw_c (v := nI 25) rfl (by decide) ?_
  refine aw_bna (n := 25) (j := 6) (c' := [.inl (7, [.int (nI 0), .int (nI 0), .ref (b + 1), .int (nI 1), .int (nI 0), .ref (b + 2), .ref (b + 3), .ref (b + 4), .ref (b + 5), .null, .null, .null, .null, .int 0, .int 0, .int 0]), .inr (0, 32, .inl (fun _ => 0)), .inr (0, 4, .inl (fun _ => 0)), .inr (0, 25, .inl (fun _ => 0)), .inr (0, 25, .inl (fun _ => 0)), .inr (0, 25, .inl (fun _ => 0)), .inr (0, 25, .inl (fun _ => 0))]) rfl rfl (by decide) hl rfl rfl ?_
  refine aw_bp (i := 0) (c' := [.inl (7, [.int (nI 0), .int (nI 0), .ref (b + 1), .int (nI 1), .int (nI 0), .ref (b + 2), .ref (b + 3), .ref (b + 4), .ref (b + 5), .ref (b + 6), .null, .null, .null, .int 0, .int 0, .int 0]), .inr (0, 32, .inl (fun _ => 0)), .inr (0, 4, .inl (fun _ => 0)), .inr (0, 25, .inl (fun _ => 0)), .inr (0, 25, .inl (fun _ => 0)), .inr (0, 25, .inl (fun _ => 0)), .inr (0, 25, .inl (fun _ => 0))]) rfl hl (Nat.le_of_ble_eq_true rfl) rfl rfl rfl rfl ?_
  refine aw rfl rfl ?_
  refine aw_bnn (n := 8) (fs := [.null, .int 0, .null, .int 0, .null, .int 0, .null, .null]) (j := 7) rfl hl rfl rfl rfl ?_
  refine aw rfl rfl ?_
  refine aw_cs (d1 := 1) (L1 := 14) rfl rfl (by decide) (by decide) (Nat.le_of_ble_eq_true rfl) (c_X1_init (b := b + 7) (bh_hl hl rfl) (fun m1 hm1 => ?_))
  refine aw_as (c' := [.inl (7, [.int (nI 0), .int (nI 0), .ref (b + 1), .int (nI 1), .int (nI 0), .ref (b + 2), .ref (b + 3), .ref (b + 4), .ref (b + 5), .ref (b + 6), .null, .null, .null, .int 0, .int 0, .int 0]), .inr (0, 32, .inl (fun _ => 0)), .inr (0, 4, .inl (fun _ => 0)), .inr (0, 25, .inl (fun _ => 0)), .inr (0, 25, .inl (fun _ => 0)), .inr (0, 25, .inl (fun _ => 0)), .inr (0, 25, .inl (fun _ => 0)), .inl (1, [.ref (b + 8), .int (nI 0), .ref (b + 9), .int (nI 0), .ref (b + 10), .int (nI 0), .ref (b + 11), .ref (b + 12)]), .inr (0, 400, .inl (fun _ => 0)), .inr (0, 3, .inl (fun _ => 0)), .inr (0, 32, .inl (fun _ => 0)), .inr (0, 7, .inl (fun _ => 0)), .inr (0, 32, .inl (fun _ => 0))]) rfl ?_
  refine aw_bp (i := 0) (c' := [.inl (7, [.int (nI 0), .int (nI 0), .ref (b + 1), .int (nI 1), .int (nI 0), .ref (b + 2), .ref (b + 3), .ref (b + 4), .ref (b + 5), .ref (b + 6), .ref (b + 7), .null, .null, .int 0, .int 0, .int 0]), .inr (0, 32, .inl (fun _ => 0)), .inr (0, 4, .inl (fun _ => 0)), .inr (0, 25, .inl (fun _ => 0)), .inr (0, 25, .inl (fun _ => 0)), .inr (0, 25, .inl (fun _ => 0)), .inr (0, 25, .inl (fun _ => 0)), .inl (1, [.ref (b + 8), .int (nI 0), .ref (b + 9), .int (nI 0), .ref (b + 10), .int (nI 0), .ref (b + 11), .ref (b + 12)]), .inr (0, 400, .inl (fun _ => 0)), .inr (0, 3, .inl (fun _ => 0)), .inr (0, 32, .inl (fun _ => 0)), .inr (0, 7, .inl (fun _ => 0)), .inr (0, 32, .inl (fun _ => 0))]) rfl hl (Nat.le_of_ble_eq_true rfl) rfl rfl rfl rfl ?_
  refine aw rfl rfl ?_
  refine aw_c (v := nI 3) rfl (by decide) ?_
  refine aw_bna (n := 3) (j := 13) (c' := [.inl (7, [.int (nI 0), .int (nI 0), .ref (b + 1), .int (nI 1), .int (nI 0), .ref (b + 2), .ref (b + 3), .ref (b + 4), .ref (b + 5), .ref (b + 6), .ref (b + 7), .null, .null, .int 0, .int 0, .int 0]), .inr (0, 32, .inl (fun _ => 0)), .inr (0, 4, .inl (fun _ => 0)), .inr (0, 25, .inl (fun _ => 0)), .inr (0, 25, .inl (fun _ => 0)), .inr (0, 25, .inl (fun _ => 0)), .inr (0, 25, .inl (fun _ => 0)), .inl (1, [.ref (b + 8), .int (nI 0), .ref (b + 9), .int (nI 0), .ref (b + 10), .int (nI 0), .ref (b + 11), .ref (b + 12)]), .inr (0, 400, .inl (fun _ => 0)), .inr (0, 3, .inl (fun _ => 0)), .inr (0, 32, .inl (fun _ => 0)), .inr (0, 7, .inl (fun _ => 0)), .inr (0, 32, .inl (fun _ => 0)), .inr (0, 3, .inl (fun _ => 0))]) rfl rfl (by decide) hl rfl rfl ?_
  refine aw_bp (i := 0) (c' := [.inl (7, [.int (nI 0), .int (nI 0), .ref (b + 1), .int (nI 1), .int (nI 0), .ref (b + 2), .ref (b + 3), .ref (b + 4), .ref (b + 5), .ref (b + 6), .ref (b + 7), .ref (b + 13), .null, .int 0, .int 0, .int 0]), .inr (0, 32, .inl (fun _ => 0)), .inr (0, 4, .inl (fun _ => 0)), .inr (0, 25, .inl (fun _ => 0)), .inr (0, 25, .inl (fun _ => 0)), .inr (0, 25, .inl (fun _ => 0)), .inr (0, 25, .inl (fun _ => 0)), .inl (1, [.ref (b + 8), .int (nI 0), .ref (b + 9), .int (nI 0), .ref (b + 10), .int (nI 0), .ref (b + 11), .ref (b + 12)]), .inr (0, 400, .inl (fun _ => 0)), .inr (0, 3, .inl (fun _ => 0)), .inr (0, 32, .inl (fun _ => 0)), .inr (0, 7, .inl (fun _ => 0)), .inr (0, 32, .inl (fun _ => 0)), .inr (0, 3, .inl (fun _ => 0))]) rfl hl (Nat.le_of_ble_eq_true rfl) rfl rfl rfl rfl ?_
  refine aw rfl rfl ?_
  refine aw_c (v := nI 3) rfl (by decide) ?_
  refine aw_bna (n := 3) (j := 14) (c' := [.inl (7, [.int (nI 0), .int (nI 0), .ref (b + 1), .int (nI 1), .int (nI 0), .ref (b + 2), .ref (b + 3), .ref (b + 4), .ref (b + 5), .ref (b + 6), .ref (b + 7), .ref (b + 13), .null, .int 0, .int 0, .int 0]), .inr (0, 32, .inl (fun _ => 0)), .inr (0, 4, .inl (fun _ => 0)), .inr (0, 25, .inl (fun _ => 0)), .inr (0, 25, .inl (fun _ => 0)), .inr (0, 25, .inl (fun _ => 0)), .inr (0, 25, .inl (fun _ => 0)), .inl (1, [.ref (b + 8), .int (nI 0), .ref (b + 9), .int (nI 0), .ref (b + 10), .int (nI 0), .ref (b + 11), .ref (b + 12)]), .inr (0, 400, .inl (fun _ => 0)), .inr (0, 3, .inl (fun _ => 0)), .inr (0, 32, .inl (fun _ => 0)), .inr (0, 7, .inl (fun _ => 0)), .inr (0, 32, .inl (fun _ => 0)), .inr (0, 3, .inl (fun _ => 0)), .inr (0, 3, .inl (fun _ => 0))]) rfl rfl (by decide) hl rfl rfl ?_
  refine aw_bp (i := 0) (c' := [.inl (7, [.int (nI 0), .int (nI 0), .ref (b + 1), .int (nI 1), .int (nI 0), .ref (b + 2), .ref (b + 3), .ref (b + 4), .ref (b + 5), .ref (b + 6), .ref (b + 7), .ref (b + 13), .ref (b + 14), .int 0, .int 0, .int 0]), .inr (0, 32, .inl (fun _ => 0)), .inr (0, 4, .inl (fun _ => 0)), .inr (0, 25, .inl (fun _ => 0)), .inr (0, 25, .inl (fun _ => 0)), .inr (0, 25, .inl (fun _ => 0)), .inr (0, 25, .inl (fun _ => 0)), .inl (1, [.ref (b + 8), .int (nI 0), .ref (b + 9), .int (nI 0), .ref (b + 10), .int (nI 0), .ref (b + 11), .ref (b + 12)]), .inr (0, 400, .inl (fun _ => 0)), .inr (0, 3, .inl (fun _ => 0)), .inr (0, 32, .inl (fun _ => 0)), .inr (0, 7, .inl (fun _ => 0)), .inr (0, 32, .inl (fun _ => 0)), .inr (0, 3, .inl (fun _ => 0)), .inr (0, 3, .inl (fun _ => 0))]) rfl hl (Nat.le_of_ble_eq_true rfl) rfl rfl rfl rfl ?_
  refine aw rfl rfl ?_
  refine aw_c (v := nI 0) rfl (by decide) ?_
  refine aw_bp (i := 0) (c' := [.inl (7, [.int (nI 0), .int (nI 0), .ref (b + 1), .int (nI 1), .int (nI 0), .ref (b + 2), .ref (b + 3), .ref (b + 4), .ref (b + 5), .ref (b + 6), .ref (b + 7), .ref (b + 13), .ref (b + 14), .int (nI 0), .int 0, .int 0]), .inr (0, 32, .inl (fun _ => 0)), .inr (0, 4, .inl (fun _ => 0)), .inr (0, 25, .inl (fun _ => 0)), .inr (0, 25, .inl (fun _ => 0)), .inr (0, 25, .inl (fun _ => 0)), .inr (0, 25, .inl (fun _ => 0)), .inl (1, [.ref (b + 8), .int (nI 0), .ref (b + 9), .int (nI 0), .ref (b + 10), .int (nI 0), .ref (b + 11), .ref (b + 12)]), .inr (0, 400, .inl (fun _ => 0)), .inr (0, 3, .inl (fun _ => 0)), .inr (0, 32, .inl (fun _ => 0)), .inr (0, 7, .inl (fun _ => 0)), .inr (0, 32, .inl (fun _ => 0)), .inr (0, 3, .inl (fun _ => 0)), .inr (0, 3, .inl (fun _ => 0))]) rfl hl (Nat.le_of_ble_eq_true rfl) rfl rfl rfl rfl ?_
  refine aw rfl rfl ?_
  refine aw_c (v := nI 5) rfl (by decide) ?_
  refine aw_bp (i := 0) (c' := [.inl (7, [.int (nI 0), .int (nI 0), .ref (b + 1), .int (nI 1), .int (nI 0), .ref (b + 2), .ref (b + 3), .ref (b + 4), .ref (b + 5), .ref (b + 6), .ref (b + 7), .ref (b + 13), .ref (b + 14), .int (nI 0), .int (nI 5), .int 0]), .inr (0, 32, .inl (fun _ => 0)), .inr (0, 4, .inl (fun _ => 0)), .inr (0, 25, .inl (fun _ => 0)), .inr (0, 25, .inl (fun _ => 0)), .inr (0, 25, .inl (fun _ => 0)), .inr (0, 25, .inl (fun _ => 0)), .inl (1, [.ref (b + 8), .int (nI 0), .ref (b + 9), .int (nI 0), .ref (b + 10), .int (nI 0), .ref (b + 11), .ref (b + 12)]), .inr (0, 400, .inl (fun _ => 0)), .inr (0, 3, .inl (fun _ => 0)), .inr (0, 32, .inl (fun _ => 0)), .inr (0, 7, .inl (fun _ => 0)), .inr (0, 32, .inl (fun _ => 0)), .inr (0, 3, .inl (fun _ => 0)), .inr (0, 3, .inl (fun _ => 0))]) rfl hl (Nat.le_of_ble_eq_true rfl) rfl rfl rfl rfl ?_
  refine aw rfl rfl ?_
  refine aw_c (v := nI 0) rfl (by decide) ?_
  refine aw_bp (i := 0) (c' := [.inl (7, [.int (nI 0), .int (nI 0), .ref (b + 1), .int (nI 1), .int (nI 0), .ref (b + 2), .ref (b + 3), .ref (b + 4), .ref (b + 5), .ref (b + 6), .ref (b + 7), .ref (b + 13), .ref (b + 14), .int (nI 0), .int (nI 5), .int (nI 0)]), .inr (0, 32, .inl (fun _ => 0)), .inr (0, 4, .inl (fun _ => 0)), .inr (0, 25, .inl (fun _ => 0)), .inr (0, 25, .inl (fun _ => 0)), .inr (0, 25, .inl (fun _ => 0)), .inr (0, 25, .inl (fun _ => 0)), .inl (1, [.ref (b + 8), .int (nI 0), .ref (b + 9), .int (nI 0), .ref (b + 10), .int (nI 0), .ref (b + 11), .ref (b + 12)]), .inr (0, 400, .inl (fun _ => 0)), .inr (0, 3, .inl (fun _ => 0)), .inr (0, 32, .inl (fun _ => 0)), .inr (0, 7, .inl (fun _ => 0)), .inr (0, 32, .inl (fun _ => 0)), .inr (0, 3, .inl (fun _ => 0)), .inr (0, 3, .inl (fun _ => 0))]) rfl hl (Nat.le_of_ble_eq_true rfl) rfl rfl rfl rfl ?_
  exact aw_vret rfl rfl (q _ (by omega))
theorem c_X9_init {tpe : Nat} (hl : 8 + l.length = b) (q : ∀ m', m' = m + 1203 → Q none (bh f m' (l ++ [.inl (9, [.ref (b + 1), .ref (b + 2), .ref (b + 3), .ref tpe, .int (nI 0), .int (nI 0), .int (nI 0), .int (nI 0)]), .inr (0, 401, .inl (fun _ => 0)), .inr (0, 401, .inl (fun _ => 0)), .inr (0, 401, .inl (fun _ => 0))]))) : AC am_P 1 14 116 [.ref (b + 0), .ref tpe] (bh f m (l ++ [.inl (9, [.null, .null, .null, .null, .int 0, .int 0, .int 0, .int 0])])) Q := by
  refine AC.of (ls := [_, _]) rfl ?_
  refine aw rfl rfl ?_
  refine aw rfl rfl ?_
  refine aw rfl rfl ?_
  refine aw_c (v := nI 401) rfl (by decide) ?_
  refine aw_bna (n := 401) (j := 1) (c' := [.inl (9, [.null, .null, .null, .null, .int 0, .int 0, .int 0, .int 0]), .inr (0, 401, .inl (fun _ => 0))]) rfl rfl (by decide) hl rfl rfl ?_
  refine aw_bp (i := 0) (c' := [.inl (9, [.ref (b + 1), .null, .null, .null, .int 0, .int 0, .int 0, .int 0]), .inr (0, 401, .inl (fun _ => 0))]) rfl hl (Nat.le_of_ble_eq_true rfl) rfl rfl rfl rfl ?_
  refine aw rfl rfl ?_
  refine aw_c (v := nI 401) rfl (by decide) ?_
  refine aw_bna (n := 401) (j := 2) (c' := [.inl (9, [.ref (b + 1), .null, .null, .null, .int 0, .int 0, .int 0, .int 0]), .inr (0, 401, .inl (fun _ => 0)), .inr (0, 401, .inl (fun _ => 0))]) rfl rfl (by decide) hl rfl rfl ?_
  refine aw_bp (i := 0) (c' := [.inl (9, [.ref (b + 1), .ref (b + 2), .null, .null, .int 0, .int 0, .int 0, .int 0]), .inr (0, 401, .inl (fun _ => 0)), .inr (0, 401, .inl (fun _ => 0))]) rfl hl (Nat.le_of_ble_eq_true rfl) rfl rfl rfl rfl ?_
  refine aw rfl rfl ?_
  refine aw_c (v := nI 401) rfl (by decide) ?_
  refine aw_bna (n := 401) (j := 3) (c' := [.inl (9, [.ref (b + 1), .ref (b + 2), .null, .null, .int 0, .int 0, .int 0, .int 0]), .inr (0, 401, .inl (fun _ => 0)), .inr (0, 401, .inl (fun _ => 0)), .inr (0, 401, .inl (fun _ => 0))]) rfl rfl (by decide) hl rfl rfl ?_
  refine aw_bp (i := 0) (c' := [.inl (9, [.ref (b + 1), .ref (b + 2), .ref (b + 3), .null, .int 0, .int 0, .int 0, .int 0]), .inr (0, 401, .inl (fun _ => 0)), .inr (0, 401, .inl (fun _ => 0)), .inr (0, 401, .inl (fun _ => 0))]) rfl hl (Nat.le_of_ble_eq_true rfl) rfl rfl rfl rfl ?_
  refine aw rfl rfl ?_
  refine aw_c (v := nI 0) rfl (by decide) ?_
  refine aw_bp (i := 0) (c' := [.inl (9, [.ref (b + 1), .ref (b + 2), .ref (b + 3), .null, .int (nI 0), .int 0, .int 0, .int 0]), .inr (0, 401, .inl (fun _ => 0)), .inr (0, 401, .inl (fun _ => 0)), .inr (0, 401, .inl (fun _ => 0))]) rfl hl (Nat.le_of_ble_eq_true rfl) rfl rfl rfl rfl ?_
  refine aw rfl rfl ?_
  refine aw_c (v := nI 0) rfl (by decide) ?_
  refine aw_bp (i := 0) (c' := [.inl (9, [.ref (b + 1), .ref (b + 2), .ref (b + 3), .null, .int (nI 0), .int (nI 0), .int 0, .int 0]), .inr (0, 401, .inl (fun _ => 0)), .inr (0, 401, .inl (fun _ => 0)), .inr (0, 401, .inl (fun _ => 0))]) rfl hl (Nat.le_of_ble_eq_true rfl) rfl rfl rfl rfl ?_
  refine aw rfl rfl ?_
  refine aw_c (v := nI 0) rfl (by decide) ?_
  refine aw_bp (i := 0) (c' := [.inl (9, [.ref (b + 1), .ref (b + 2), .ref (b + 3), .null, .int (nI 0), .int (nI 0), .int (nI 0), .int 0]), .inr (0, 401, .inl (fun _ => 0)), .inr (0, 401, .inl (fun _ => 0)), .inr (0, 401, .inl (fun _ => 0))]) rfl hl (Nat.le_of_ble_eq_true rfl) rfl rfl rfl rfl ?_
  refine aw rfl rfl ?_
  refine aw_c (v := nI 0) rfl (by decide) ?_
  refine aw_bp (i := 0) (c' := [.inl (9, [.ref (b + 1), .ref (b + 2), .ref (b + 3), .null, .int (nI 0), .int (nI 0), .int (nI 0), .int (nI 0)]), .inr (0, 401, .inl (fun _ => 0)), .inr (0, 401, .inl (fun _ => 0)), .inr (0, 401, .inl (fun _ => 0))]) rfl hl (Nat.le_of_ble_eq_true rfl) rfl rfl rfl rfl ?_
  refine aw rfl rfl ?_
  refine aw rfl rfl ?_
  refine aw_bp (i := 0) (c' := [.inl (9, [.ref (b + 1), .ref (b + 2), .ref (b + 3), .ref tpe, .int (nI 0), .int (nI 0), .int (nI 0), .int (nI 0)]), .inr (0, 401, .inl (fun _ => 0)), .inr (0, 401, .inl (fun _ => 0)), .inr (0, 401, .inl (fun _ => 0))]) rfl hl (Nat.le_of_ble_eq_true rfl) rfl rfl rfl rfl ?_
  exact aw_vret rfl rfl (q _ (by omega))
theorem c_X4_init {tpe spr : Nat} (hl : 8 + l.length = b) (q : ∀ m', m' = m + 1215 → Q none (bh f m' (l ++ [.inl (4, [.ref (b + 2), .ref spr, .int (nI 0), .int (nI 0), .int (nI 0), .int (nI 0), .int (nI 0), .ref (b + 1), .int (nI 0), .int (-1), .int (nI 0), .int (-1)]), .inr (3, 4, .inr (.inl (fun _ => 0))), .inl (9, [.ref (b + 3), .ref (b + 4), .ref (b + 5), .ref tpe, .int (nI 0), .int (nI 0), .int (nI 0), .int (nI 0)]), .inr (0, 401, .inl (fun _ => 0)), .inr (0, 401, .inl (fun _ => 0)), .inr (0, 401, .inl (fun _ => 0))]))) : AC am_P 2 35 42 [.ref (b + 0), .ref tpe, .ref spr] (bh f m (l ++ [.inl (4, [.null, .null, .int 0, .int 0, .int 0, .int 0, .int 0, .null, .int 0, .int 0, .int 0, .int 0])])) Q := by
  refine AC.of (ls := [_, _, _]) rfl ?_
  refine aw rfl rfl ?_
  refine aw rfl rfl ?_
  refine aw rfl rfl ?_
  refine aw_c (v := nI 0) rfl (by decide) ?_
  refine aw_bp (i := 0) (c' := [.inl (4, [.null, .null, .int (nI 0), .int 0, .int 0, .int 0, .int 0, .null, .int 0, .int 0, .int 0, .int 0])]) rfl hl (Nat.le_of_ble_eq_true rfl) rfl rfl rfl rfl ?_
  refine aw rfl rfl ?_
  refine aw_c (v := nI 0) rfl (by decide) ?_
  refine aw_bp (i := 0) (c' := [.inl (4, [.null, .null, .int (nI 0), .int (nI 0), .int 0, .int 0, .int 0, .null, .int 0, .int 0, .int 0, .int 0])]) rfl hl (Nat.le_of_ble_eq_true rfl) rfl rfl rfl rfl ?_
  refine aw rfl rfl ?_
  refine aw_c (v := nI 0) rfl (by decide) ?_
  refine aw_bp (i := 0) (c' := [.inl (4, [.null, .null, .int (nI 0), .int (nI 0), .int (nI 0), .int 0, .int 0, .null, .int 0, .int 0, .int 0, .int 0])]) rfl hl (Nat.le_of_ble_eq_true rfl) rfl rfl rfl rfl ?_
  refine aw rfl rfl ?_
  refine aw_c (v := nI 0) rfl (by decide) ?_
  refine aw_bp (i := 0) (c' := [.inl (4, [.null, .null, .int (nI 0), .int (nI 0), .int (nI 0), .int (nI 0), .int 0, .null, .int 0, .int 0, .int 0, .int 0])]) rfl hl (Nat.le_of_ble_eq_true rfl) rfl rfl rfl rfl ?_
  refine aw rfl rfl ?_
  refine aw_c (v := nI 0) rfl (by decide) ?_
  refine aw_bp (i := 0) (c' := [.inl (4, [.null, .null, .int (nI 0), .int (nI 0), .int (nI 0), .int (nI 0), .int (nI 0), .null, .int 0, .int 0, .int 0, .int 0])]) rfl hl (Nat.le_of_ble_eq_true rfl) rfl rfl rfl rfl ?_
  refine aw rfl rfl ?_
  refine aw_c (v := nI 4) rfl (by decide) ?_
  refine aw_bna (n := 4) (j := 1) (c' := [.inl (4, [.null, .null, .int (nI 0), .int (nI 0), .int (nI 0), .int (nI 0), .int (nI 0), .null, .int 0, .int 0, .int 0, .int 0]), .inr (3, 4, .inr (.inl (fun _ => 0)))]) rfl rfl (by decide) hl rfl rfl ?_
  refine aw_bp (i := 0) (c' := [.inl (4, [.null, .null, .int (nI 0), .int (nI 0), .int (nI 0), .int (nI 0), .int (nI 0), .ref (b + 1), .int 0, .int 0, .int 0, .int 0]), .inr (3, 4, .inr (.inl (fun _ => 0)))]) rfl hl (Nat.le_of_ble_eq_true rfl) rfl rfl rfl rfl ?_
  refine aw rfl rfl ?_
  refine aw_c (v := nI 0) rfl (by decide) ?_
  refine aw_bp (i := 0) (c' := [.inl (4, [.null, .null, .int (nI 0), .int (nI 0), .int (nI 0), .int (nI 0), .int (nI 0), .ref (b + 1), .int (nI 0), .int 0, .int 0, .int 0]), .inr (3, 4, .inr (.inl (fun _ => 0)))]) rfl hl (Nat.le_of_ble_eq_true rfl) rfl rfl rfl rfl ?_
  refine aw rfl rfl ?_
  refine aw_c (v := -1) rfl (by decide) ?_
  refine aw_bp (i := 0) (c' := [.inl (4, [.null, .null, .int (nI 0), .int (nI 0), .int (nI 0), .int (nI 0), .int (nI 0), .ref (b + 1), .int (nI 0), .int (-1), .int 0, .int 0]), .inr (3, 4, .inr (.inl (fun _ => 0)))]) rfl hl (Nat.le_of_ble_eq_true rfl) rfl rfl rfl rfl ?_
  refine aw rfl rfl ?_
  refine aw_c (v := nI 0) rfl (by decide) ?_
  refine aw_bp (i := 0) (c' := [.inl (4, [.null, .null, .int (nI 0), .int (nI 0), .int (nI 0), .int (nI 0), .int (nI 0), .ref (b + 1), .int (nI 0), .int (-1), .int (nI 0), .int 0]), .inr (3, 4, .inr (.inl (fun _ => 0)))]) rfl hl (Nat.le_of_ble_eq_true rfl) rfl rfl rfl rfl ?_
  refine aw rfl rfl ?_
  refine aw_c (v := -1) rfl (by decide) ?_
  refine aw_bp (i := 0) (c' := [.inl (4, [.null, .null, .int (nI 0), .int (nI 0), .int (nI 0), .int (nI 0), .int (nI 0), .ref (b + 1), .int (nI 0), .int (-1), .int (nI 0), .int (-1)]), .inr (3, 4, .inr (.inl (fun _ => 0)))]) rfl hl (Nat.le_of_ble_eq_true rfl) rfl rfl rfl rfl ?_
  refine aw rfl rfl ?_
  refine aw_bnn (n := 8) (fs := [.null, .null, .null, .null, .int 0, .int 0, .int 0, .int 0]) (j := 2) rfl hl rfl rfl rfl ?_
  refine aw_as (c' := [.inl (4, [.null, .null, .int (nI 0), .int (nI 0), .int (nI 0), .int (nI 0), .int (nI 0), .ref (b + 1), .int (nI 0), .int (-1), .int (nI 0), .int (-1)]), .inr (3, 4, .inr (.inl (fun _ => 0))), .inl (9, [.null, .null, .null, .null, .int 0, .int 0, .int 0, .int 0])]) rfl ?_
  refine aw rfl rfl ?_
  refine aw rfl rfl ?_
  refine aw_sa (c0 := [.inl (4, [.null, .null, .int (nI 0), .int (nI 0), .int (nI 0), .int (nI 0), .int (nI 0), .ref (b + 1), .int (nI 0), .int (-1), .int (nI 0), .int (-1)]), .inr (3, 4, .inr (.inl (fun _ => 0)))]) (c1 := [.inl (9, [.null, .null, .null, .null, .int 0, .int 0, .int 0, .int 0])]) rfl ?_
  refine aw_cs (d1 := 1) (L1 := 14) rfl rfl (by decide) (by decide) (Nat.le_of_ble_eq_true rfl) (c_X9_init (b := b + 2) (tpe := tpe) (bh_hl hl rfl) (fun m1 hm1 => ?_))
  refine aw_as (c' := [.inl (4, [.null, .null, .int (nI 0), .int (nI 0), .int (nI 0), .int (nI 0), .int (nI 0), .ref (b + 1), .int (nI 0), .int (-1), .int (nI 0), .int (-1)]), .inr (3, 4, .inr (.inl (fun _ => 0))), .inl (9, [.ref (b + 3), .ref (b + 4), .ref (b + 5), .ref tpe, .int (nI 0), .int (nI 0), .int (nI 0), .int (nI 0)]), .inr (0, 401, .inl (fun _ => 0)), .inr (0, 401, .inl (fun _ => 0)), .inr (0, 401, .inl (fun _ => 0))]) rfl ?_
  refine aw_bp (i := 0) (c' := [.inl (4, [.ref (b + 2), .null, .int (nI 0), .int (nI 0), .int (nI 0), .int (nI 0), .int (nI 0), .ref (b + 1), .int (nI 0), .int (-1), .int (nI 0), .int (-1)]), .inr (3, 4, .inr (.inl (fun _ => 0))), .inl (9, [.ref (b + 3), .ref (b + 4), .ref (b + 5), .ref tpe, .int (nI 0), .int (nI 0), .int (nI 0), .int (nI 0)]), .inr (0, 401, .inl (fun _ => 0)), .inr (0, 401, .inl (fun _ => 0)), .inr (0, 401, .inl (fun _ => 0))]) rfl hl (Nat.le_of_ble_eq_true rfl) rfl rfl rfl rfl ?_
  refine aw rfl rfl ?_
  refine aw rfl rfl ?_
  refine aw_bp (i := 0) (c' := [.inl (4, [.ref (b + 2), .ref spr, .int (nI 0), .int (nI 0), .int (nI 0), .int (nI 0), .int (nI 0), .ref (b + 1), .int (nI 0), .int (-1), .int (nI 0), .int (-1)]), .inr (3, 4, .inr (.inl (fun _ => 0))), .inl (9, [.ref (b + 3), .ref (b + 4), .ref (b + 5), .ref tpe, .int (nI 0), .int (nI 0), .int (nI 0), .int (nI 0)]), .inr (0, 401, .inl (fun _ => 0)), .inr (0, 401, .inl (fun _ => 0)), .inr (0, 401, .inl (fun _ => 0))]) rfl hl (Nat.le_of_ble_eq_true rfl) rfl rfl rfl rfl ?_
  exact aw_vret rfl rfl (q _ (by omega))
theorem c_X0_init {tpe spr : Nat} (hl : 8 + l.length = b) (q : ∀ m', m' = m + 768 → Q none (bh f m' (l ++ [.inl (0, [.ref tpe, .ref spr, .ref (b + 1), .ref (b + 2), .int (nI 0), .int (nI 0), .int (nI 0), .int (-1), .int (-1)]), .inr (0, 384, .inl (fun _ => 0)), .inr (0, 384, .inl (fun _ => 0))]))) : AC am_P 1 14 0 [.ref (b + 0), .ref tpe, .ref spr] (bh f m (l ++ [.inl (0, [.null, .null, .null, .null, .int 0, .int 0, .int 0, .int 0, .int 0])])) Q := by
  refine AC.of (ls := [_, _, _]) rfl ?_
  refine aw rfl rfl ?_
  refine aw rfl rfl ?_
  refine aw rfl rfl ?_
  refine aw_c (v := nI 384) rfl (by decide) ?_
  refine aw_bna (n := 384) (j := 1) (c' := [.inl (0, [.null, .null, .null, .null, .int 0, .int 0, .int 0, .int 0, .int 0]), .inr (0, 384, .inl (fun _ => 0))]) rfl rfl (by decide) hl rfl rfl ?_
  refine aw_bp (i := 0) (c' := [.inl (0, [.null, .null, .ref (b + 1), .null, .int 0, .int 0, .int 0, .int 0, .int 0]), .inr (0, 384, .inl (fun _ => 0))]) rfl hl (Nat.le_of_ble_eq_true rfl) rfl rfl rfl rfl ?_
  refine aw rfl rfl ?_
  refine aw_c (v := nI 384) rfl (by decide) ?_
  refine aw_bna (n := 384) (j := 2) (c' := [.inl (0, [.null, .null, .ref (b + 1), .null, .int 0, .int 0, .int 0, .int 0, .int 0]), .inr (0, 384, .inl (fun _ => 0)), .inr (0, 384, .inl (fun _ => 0))]) rfl rfl (by decide) hl rfl rfl ?_
  refine aw_bp (i := 0) (c' := [.inl (0, [.null, .null, .ref (b + 1), .ref (b + 2), .int 0, .int 0, .int 0, .int 0, .int 0]), .inr (0, 384, .inl (fun _ => 0)), .inr (0, 384, .inl (fun _ => 0))]) rfl hl (Nat.le_of_ble_eq_true rfl) rfl rfl rfl rfl ?_
  refine aw rfl rfl ?_
  refine aw_c (v := nI 0) rfl (by decide) ?_
  refine aw_bp (i := 0) (c' := [.inl (0, [.null, .null, .ref (b + 1), .ref (b + 2), .int (nI 0), .int 0, .int 0, .int 0, .int 0]), .inr (0, 384, .inl (fun _ => 0)), .inr (0, 384, .inl (fun _ => 0))]) rfl hl (Nat.le_of_ble_eq_true rfl) rfl rfl rfl rfl ?_
  refine aw rfl rfl ?_
  refine aw_c (v := nI 0) rfl (by decide) ?_
  refine aw_bp (i := 0) (c' := [.inl (0, [.null, .null, .ref (b + 1), .ref (b + 2), .int (nI 0), .int (nI 0), .int 0, .int 0, .int 0]), .inr (0, 384, .inl (fun _ => 0)), .inr (0, 384, .inl (fun _ => 0))]) rfl hl (Nat.le_of_ble_eq_true rfl) rfl rfl rfl rfl ?_
  refine aw rfl rfl ?_
  refine aw_c (v := nI 0) rfl (by decide) ?_
  refine aw_bp (i := 0) (c' := [.inl (0, [.null, .null, .ref (b + 1), .ref (b + 2), .int (nI 0), .int (nI 0), .int (nI 0), .int 0, .int 0]), .inr (0, 384, .inl (fun _ => 0)), .inr (0, 384, .inl (fun _ => 0))]) rfl hl (Nat.le_of_ble_eq_true rfl) rfl rfl rfl rfl ?_
  refine aw rfl rfl ?_
  refine aw_c (v := -1) rfl (by decide) ?_
  refine aw_bp (i := 0) (c' := [.inl (0, [.null, .null, .ref (b + 1), .ref (b + 2), .int (nI 0), .int (nI 0), .int (nI 0), .int (-1), .int 0]), .inr (0, 384, .inl (fun _ => 0)), .inr (0, 384, .inl (fun _ => 0))]) rfl hl (Nat.le_of_ble_eq_true rfl) rfl rfl rfl rfl ?_
  refine aw rfl rfl ?_
  refine aw_c (v := -1) rfl (by decide) ?_
  refine aw_bp (i := 0) (c' := [.inl (0, [.null, .null, .ref (b + 1), .ref (b + 2), .int (nI 0), .int (nI 0), .int (nI 0), .int (-1), .int (-1)]), .inr (0, 384, .inl (fun _ => 0)), .inr (0, 384, .inl (fun _ => 0))]) rfl hl (Nat.le_of_ble_eq_true rfl) rfl rfl rfl rfl ?_
  refine aw rfl rfl ?_
  refine aw rfl rfl ?_
  refine aw_bp (i := 0) (c' := [.inl (0, [.ref tpe, .null, .ref (b + 1), .ref (b + 2), .int (nI 0), .int (nI 0), .int (nI 0), .int (-1), .int (-1)]), .inr (0, 384, .inl (fun _ => 0)), .inr (0, 384, .inl (fun _ => 0))]) rfl hl (Nat.le_of_ble_eq_true rfl) rfl rfl rfl rfl ?_
  refine aw rfl rfl ?_
  refine aw rfl rfl ?_
  refine aw_bp (i := 0) (c' := [.inl (0, [.ref tpe, .ref spr, .ref (b + 1), .ref (b + 2), .int (nI 0), .int (nI 0), .int (nI 0), .int (-1), .int (-1)]), .inr (0, 384, .inl (fun _ => 0)), .inr (0, 384, .inl (fun _ => 0))]) rfl hl (Nat.le_of_ble_eq_true rfl) rfl rfl rfl rfl ?_
  exact aw_vret rfl rfl (q _ (by omega))
theorem c_X3_init {tpe spr : Nat} (hl : 8 + l.length = b) (q : ∀ m', m' = m + 9601 → Q none (bh f m' (l ++ [.inl (3, [.ref tpe, .ref spr, .ref (b + 1), .ref (b + 2), .ref (b + 3), .ref (b + 4)]), .inr (0, 9312, .inl (fun _ => 0)), .inr (0, 97, .inl (fun _ => 0)), .inr (0, 96, .inl (fun _ => 0)), .inr (0, 96, .inl (fun _ => 0))]))) : AC am_P 1 14 32 [.ref (b + 0), .ref tpe, .ref spr] (bh f m (l ++ [.inl (3, [.null, .null, .null, .null, .null, .null])])) Q := by
  refine AC.of (ls := [_, _, _]) rfl ?_
  refine aw rfl rfl ?_
  refine aw rfl rfl ?_
  refine aw rfl rfl ?_
  refine aw_c (v := nI 9312) rfl (by decide) ?_
  refine aw_bna (n := 9312) (j := 1) (c' := [.inl (3, [.null, .null, .null, .null, .null, .null]), .inr (0, 9312, .inl (fun _ => 0))]) rfl rfl (by decide) hl rfl rfl ?_
  refine aw_bp (i := 0) (c' := [.inl (3, [.null, .null, .ref (b + 1), .null, .null, .null]), .inr (0, 9312, .inl (fun _ => 0))]) rfl hl (Nat.le_of_ble_eq_true rfl) rfl rfl rfl rfl ?_
  refine aw rfl rfl ?_
  refine aw_c (v := nI 97) rfl (by decide) ?_
  refine aw_bna (n := 97) (j := 2) (c' := [.inl (3, [.null, .null, .ref (b + 1), .null, .null, .null]), .inr (0, 9312, .inl (fun _ => 0)), .inr (0, 97, .inl (fun _ => 0))]) rfl rfl (by decide) hl rfl rfl ?_
  refine aw_bp (i := 0) (c' := [.inl (3, [.null, .null, .ref (b + 1), .ref (b + 2), .null, .null]), .inr (0, 9312, .inl (fun _ => 0)), .inr (0, 97, .inl (fun _ => 0))]) rfl hl (Nat.le_of_ble_eq_true rfl) rfl rfl rfl rfl ?_
  refine aw rfl rfl ?_
  refine aw_c (v := nI 96) rfl (by decide) ?_
  refine aw_bna (n := 96) (j := 3) (c' := [.inl (3, [.null, .null, .ref (b + 1), .ref (b + 2), .null, .null]), .inr (0, 9312, .inl (fun _ => 0)), .inr (0, 97, .inl (fun _ => 0)), .inr (0, 96, .inl (fun _ => 0))]) rfl rfl (by decide) hl rfl rfl ?_
  refine aw_bp (i := 0) (c' := [.inl (3, [.null, .null, .ref (b + 1), .ref (b + 2), .ref (b + 3), .null]), .inr (0, 9312, .inl (fun _ => 0)), .inr (0, 97, .inl (fun _ => 0)), .inr (0, 96, .inl (fun _ => 0))]) rfl hl (Nat.le_of_ble_eq_true rfl) rfl rfl rfl rfl ?_
  refine aw rfl rfl ?_
  refine aw_c (v := nI 96) rfl (by decide) ?_
  refine aw_bna (n := 96) (j := 4) (c' := [.inl (3, [.null, .null, .ref (b + 1), .ref (b + 2), .ref (b + 3), .null]), .inr (0, 9312, .inl (fun _ => 0)), .inr (0, 97, .inl (fun _ => 0)), .inr (0, 96, .inl (fun _ => 0)), .inr (0, 96, .inl (fun _ => 0))]) rfl rfl (by decide) hl rfl rfl ?_
  refine aw_bp (i := 0) (c' := [.inl (3, [.null, .null, .ref (b + 1), .ref (b + 2), .ref (b + 3), .ref (b + 4)]), .inr (0, 9312, .inl (fun _ => 0)), .inr (0, 97, .inl (fun _ => 0)), .inr (0, 96, .inl (fun _ => 0)), .inr (0, 96, .inl (fun _ => 0))]) rfl hl (Nat.le_of_ble_eq_true rfl) rfl rfl rfl rfl ?_
  refine aw rfl rfl ?_
  refine aw rfl rfl ?_
  refine aw_bp (i := 0) (c' := [.inl (3, [.ref tpe, .null, .ref (b + 1), .ref (b + 2), .ref (b + 3), .ref (b + 4)]), .inr (0, 9312, .inl (fun _ => 0)), .inr (0, 97, .inl (fun _ => 0)), .inr (0, 96, .inl (fun _ => 0)), .inr (0, 96, .inl (fun _ => 0))]) rfl hl (Nat.le_of_ble_eq_true rfl) rfl rfl rfl rfl ?_
  refine aw rfl rfl ?_
  refine aw rfl rfl ?_
  refine aw_bp (i := 0) (c' := [.inl (3, [.ref tpe, .ref spr, .ref (b + 1), .ref (b + 2), .ref (b + 3), .ref (b + 4)]), .inr (0, 9312, .inl (fun _ => 0)), .inr (0, 97, .inl (fun _ => 0)), .inr (0, 96, .inl (fun _ => 0)), .inr (0, 96, .inl (fun _ => 0))]) rfl hl (Nat.le_of_ble_eq_true rfl) rfl rfl rfl rfl ?_
  exact aw_vret rfl rfl (q _ (by omega))
theorem c_X5_init (hl : 8 + l.length = b) (q : ∀ m', m' = m + 191 → Q none (bh f m' (l ++ [.inl (5, [.ref (b + 1), .int (nI 0), .ref (b + 2), .int (nI 0), .int (nI 0), .ref (b + 3), .ref (b + 4)]), .inr (0, 5, .inl (fun _ => 0)), .inr (0, 180, .inl (fun _ => 0)), .inr (0, 3, .inl (fun _ => 0)), .inr (0, 3, .inl (fun _ => 0))]))) : AC am_P 1 14 69 [.ref (b + 0)] (bh f m (l ++ [.inl (5, [.null, .int 0, .null, .int 0, .int 0, .null, .null])])) Q := by
  refine AC.of (ls := [_]) rfl ?_
  refine aw rfl rfl ?_
  refine aw rfl rfl ?_
  refine aw rfl rfl ?_
  refine aw_c (v := nI 5) rfl (by decide) ?_
  refine aw_bna (n := 5) (j := 1) (c' := [.inl (5, [.null, .int 0, .null, .int 0, .int 0, .null, .null]), .inr (0, 5, .inl (fun _ => 0))]) rfl rfl (by decide) hl rfl rfl ?_
  refine aw_bp (i := 0) (c' := [.inl (5, [.ref (b + 1), .int 0, .null, .int 0, .int 0, .null, .null]), .inr (0, 5, .inl (fun _ => 0))]) rfl hl (Nat.le_of_ble_eq_true rfl) rfl rfl rfl rfl ?_
  refine aw rfl rfl ?_
  refine aw_c (v := nI 0) rfl (by decide) ?_
  refine aw_bp (i := 0) (c' := [.inl (5, [.ref (b + 1), .int (nI 0), .null, .int 0, .int 0, .null, .null]), .inr (0, 5, .inl (fun _ => 0))]) rfl hl (Nat.le_of_ble_eq_true rfl) rfl rfl rfl rfl ?_
  refine aw rfl rfl ?_
  refine aw_c (v := nI 180) rfl (by decide) ?_
  refine aw_bna (n := 180) (j := 2) (c' := [.inl (5, [.ref (b + 1), .int (nI 0), .null, .int 0, .int 0, .null, .null]), .inr (0, 5, .inl (fun _ => 0)), .inr (0, 180, .inl (fun _ => 0))]) rfl rfl (by decide) hl rfl rfl ?_
  refine aw_bp (i := 0) (c' := [.inl (5, [.ref (b + 1), .int (nI 0), .ref (b + 2), .int 0, .int 0, .null, .null]), .inr (0, 5, .inl (fun _ => 0)), .inr (0, 180, .inl (fun _ => 0))]) rfl hl (Nat.le_of_ble_eq_true rfl) rfl rfl rfl rfl ?_
  refine aw rfl rfl ?_
  refine aw_c (v := nI 0) rfl (by decide) ?_
  refine aw_bp (i := 0) (c' := [.inl (5, [.ref (b + 1), .int (nI 0), .ref (b + 2), .int (nI 0), .int 0, .null, .null]), .inr (0, 5, .inl (fun _ => 0)), .inr (0, 180, .inl (fun _ => 0))]) rfl hl (Nat.le_of_ble_eq_true rfl) rfl rfl rfl rfl ?_
  refine aw rfl rfl ?_
  refine aw_c (v := nI 0) rfl (by decide) ?_
  refine aw_bp (i := 0) (c' := [.inl (5, [.ref (b + 1), .int (nI 0), .ref (b + 2), .int (nI 0), .int (nI 0), .null, .null]), .inr (0, 5, .inl (fun _ => 0)), .inr (0, 180, .inl (fun _ => 0))]) rfl hl (Nat.le_of_ble_eq_true rfl) rfl rfl rfl rfl ?_
  refine aw rfl rfl ?_
  refine aw_c (v := nI 3) rfl (by decide) ?_
  refine aw_bna (n := 3) (j := 3) (c' := [.inl (5, [.ref (b + 1), .int (nI 0), .ref (b + 2), .int (nI 0), .int (nI 0), .null, .null]), .inr (0, 5, .inl (fun _ => 0)), .inr (0, 180, .inl (fun _ => 0)), .inr (0, 3, .inl (fun _ => 0))]) rfl rfl (by decide) hl rfl rfl ?_
  refine aw_bp (i := 0) (c' := [.inl (5, [.ref (b + 1), .int (nI 0), .ref (b + 2), .int (nI 0), .int (nI 0), .ref (b + 3), .null]), .inr (0, 5, .inl (fun _ => 0)), .inr (0, 180, .inl (fun _ => 0)), .inr (0, 3, .inl (fun _ => 0))]) rfl hl (Nat.le_of_ble_eq_true rfl) rfl rfl rfl rfl ?_
  refine aw rfl rfl ?_
  refine aw_c (v := nI 3) rfl (by decide) ?_
  refine aw_bna (n := 3) (j := 4) (c' := [.inl (5, [.ref (b + 1), .int (nI 0), .ref (b + 2), .int (nI 0), .int (nI 0), .ref (b + 3), .null]), .inr (0, 5, .inl (fun _ => 0)), .inr (0, 180, .inl (fun _ => 0)), .inr (0, 3, .inl (fun _ => 0)), .inr (0, 3, .inl (fun _ => 0))]) rfl rfl (by decide) hl rfl rfl ?_
  refine aw_bp (i := 0) (c' := [.inl (5, [.ref (b + 1), .int (nI 0), .ref (b + 2), .int (nI 0), .int (nI 0), .ref (b + 3), .ref (b + 4)]), .inr (0, 5, .inl (fun _ => 0)), .inr (0, 180, .inl (fun _ => 0)), .inr (0, 3, .inl (fun _ => 0)), .inr (0, 3, .inl (fun _ => 0))]) rfl hl (Nat.le_of_ble_eq_true rfl) rfl rfl rfl rfl ?_
  exact aw_vret rfl rfl (q _ (by omega))
end C1
