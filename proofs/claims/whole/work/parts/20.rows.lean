/-! ===== rows: an instruction of the abstract machine, goal first ===== -/
section AWR
variable {d L M pc nx a b : Nat} {ls ls' : List (Option Value)} {st : List Value} {h : am_H} {Q : Option Value → am_H → Prop}
/-- a plain instruction: 'refine aw rfl rfl ?_' -/
theorem aw {i : Instr} {pc' : Nat} {st' : List Value} {h' : am_H} (hf : am_at (am_P M).2.2.2 pc = some (i, nx, a, b)) (hs : am_do am_P d L (am_P M).2.2.1 i pc nx a b ls st h = some (.inl (pc', ls', st', h'))) (k : AW am_P d L M pc' ls' st' h' Q) : AW am_P d L M pc ls st h Q := by
  refine AW.step ?_ k
  unfold am_step
  rw [show ((pc, ls, st, h) : am_S).1 = pc from rfl, hf]
  exact hs
theorem aw_ret0 {i : Instr} {r : Option Value} (hf : am_at (am_P M).2.2.2 pc = some (i, nx, a, b)) (hs : am_do am_P d L (am_P M).2.2.1 i pc nx a b ls st h = some (.inr (.inl r))) (q : Q r h) : AW am_P d L M pc ls st h Q := by
  refine AW.ret (r := r) ?_ q
  unfold am_step
  rw [show ((pc, ls, st, h) : am_S).1 = pc from rfl, hf]
  exact hs
theorem aw_call0 {i : Instr} {y pc' d1 L1 : Nat} {vs : List Value} {st' : List Value} {Q1 : Option Value → am_H → Prop} (hf : am_at (am_P M).2.2.2 pc = some (i, nx, a, b)) (hs : am_do am_P (d + 1) L (am_P M).2.2.1 i pc nx a b ls st h = some (.inr (.inr (y, vs, pc', ls', st', h)))) (hd : d1 ≤ d) (hL : am_lc am_P y + L1 ≤ L) (hA : (am_ent0 vs).length ≤ (am_P y).2.1) (hc : AC am_P d1 L1 y vs h Q1)
    (k : ∀ r h1, Q1 r h1 → AW am_P (d + 1) L M pc' ls' (r.toList ++ st') h1 Q) : AW am_P (d + 1) L M pc ls st h Q := by
  refine AW.call (y := y) (vs := vs) (pc' := pc') (ls' := ls') (st' := st') (h' := h) ?_ (by omega) hA (hc.lift hd (by omega)) k
  unfold am_step
  rw [show ((pc, ls, st, h) : am_S).1 = pc from rfl, hf]
  exact hs
/-- stores: 'refine aw_ist (ls' := [_, _]) rfl rfl ?_' -/
theorem aw_ist {i : Instr} {x : Int32} {r : List Value} (hf : am_at (am_P M).2.2.2 pc = some (i, nx, a, b)) (hl : am_st1 ls a (.int x) = ls') (k : AW am_P d L M nx ls' r h Q) (hi : (∃ k, i = .istore k) ∨ ∃ k, i = .istore_n k := by first | exact Or.inl ⟨_, rfl⟩ | exact Or.inr ⟨_, rfl⟩) : AW am_P d L M pc ls (.int x :: r) h Q := by
  subst hl
  rcases hi with ⟨kx, rfl⟩ | ⟨kx, rfl⟩ <;> exact aw hf rfl k
theorem aw_ast {i : Instr} {x : Nat} {r : List Value} (hf : am_at (am_P M).2.2.2 pc = some (i, nx, a, b)) (hl : am_st1 ls a (.ref x) = ls') (k : AW am_P d L M nx ls' r h Q) (hi : (∃ k, i = .astore k) ∨ ∃ k, i = .astore_n k := by first | exact Or.inl ⟨_, rfl⟩ | exact Or.inr ⟨_, rfl⟩) : AW am_P d L M pc ls (.ref x :: r) h Q := by
  subst hl
  rcases hi with ⟨kx, rfl⟩ | ⟨kx, rfl⟩ <;> exact aw hf rfl k
theorem aw_lst {i : Instr} {x : Int64} {r : List Value} (hf : am_at (am_P M).2.2.2 pc = some (i, nx, a, b)) (hl : am_st2 ls a (.long x) = ls') (k : AW am_P d L M nx ls' r h Q) (hi : (∃ k, i = .lstore k) ∨ ∃ k, i = .lstore_n k := by first | exact Or.inl ⟨_, rfl⟩ | exact Or.inr ⟨_, rfl⟩) : AW am_P d L M pc ls (.long x :: r) h Q := by
  subst hl
  rcases hi with ⟨kx, rfl⟩ | ⟨kx, rfl⟩ <;> exact aw hf rfl k
theorem aw_inc {j : Nat} {n : Int} {x c : Int32} (hf : am_at (am_P M).2.2.2 pc = some (.iinc j n, nx, a, b)) (hg : am_get ls a = some (.int x)) (hc : Int32.ofInt n = c) (hl : am_st1 ls a (.int (x + c)) = ls') (k : AW am_P d L M nx ls' st h Q) : AW am_P d L M pc ls st h Q := by
  subst hl
  subst hc
  refine aw hf ?_ k
  show (match am_get ls a with
    | some (.int x) => (some (.inl (nx, am_st1 ls a (.int (x + Int32.ofInt n)), st, h)) : am_O)
    | _ => none) = _
  rw [hg]
/-- constants: 'refine aw_c (v := nI 8) rfl (by decide) ?_' -/
def am_cv : Instr → Option Int32
  | .iconst n => some (Int32.ofInt n)
  | .bipush n => some ((Int8.ofInt n).toInt32)
  | .sipush n => some ((Int16.ofInt n).toInt32)
  | _ => none
theorem aw_c {i : Instr} {v : Int32} (hf : am_at (am_P M).2.2.2 pc = some (i, nx, a, b)) (hv : am_cv i = some v) (k : AW am_P d L M nx ls (.int v :: st) h Q) : AW am_P d L M pc ls st h Q := by
  refine aw hf ?_ k
  cases i <;> first | (cases hv; done) | (cases hv; rfl)
/-- branches -/
theorem aw_if {c : ClassFile.Cond} {off : Int} {x : Int32} {r : List Value} (hf : am_at (am_P M).2.2.2 pc = some (.ifCond c off, nx, a, b)) (kt : am_cnd c x 0 = true → AW am_P d L M a ls r h Q) (kf : am_cnd c x 0 = false → AW am_P d L M nx ls r h Q) : AW am_P d L M pc ls (.int x :: r) h Q := by
  refine aw hf rfl ?_
  cases hc : am_cnd c x 0
  · exact kf hc
  · exact kt hc
theorem aw_ii {c : ClassFile.Cond} {off : Int} {x y : Int32} {r : List Value} (hf : am_at (am_P M).2.2.2 pc = some (.if_icmp c off, nx, a, b)) (kt : am_cnd c x y = true → AW am_P d L M a ls r h Q) (kf : am_cnd c x y = false → AW am_P d L M nx ls r h Q) : AW am_P d L M pc ls (.int y :: .int x :: r) h Q := by
  refine aw hf rfl ?_
  cases hc : am_cnd c x y
  · exact kf hc
  · exact kt hc
theorem aw_eq {off : Int} {x : Int32} {r : List Value} (hf : am_at (am_P M).2.2.2 pc = some (.ifCond .eq off, nx, a, b)) (kt : x = 0 → AW am_P d L M a ls r h Q) (kf : ¬ x = 0 → AW am_P d L M nx ls r h Q) : AW am_P d L M pc ls (.int x :: r) h Q := aw_if hf (fun z => kt (of_decide_eq_true z)) (fun z => kf (of_decide_eq_false z))
theorem aw_ne {off : Int} {x : Int32} {r : List Value} (hf : am_at (am_P M).2.2.2 pc = some (.ifCond .ne off, nx, a, b)) (kt : ¬ x = 0 → AW am_P d L M a ls r h Q) (kf : x = 0 → AW am_P d L M nx ls r h Q) : AW am_P d L M pc ls (.int x :: r) h Q := aw_if hf (fun z => kt (of_decide_eq_true z)) (fun z => kf (Decidable.of_not_not (of_decide_eq_false z)))
theorem aw_lt {off : Int} {x : Int32} {r : List Value} (hf : am_at (am_P M).2.2.2 pc = some (.ifCond .lt off, nx, a, b)) (kt : x < 0 → AW am_P d L M a ls r h Q) (kf : ¬ x < 0 → AW am_P d L M nx ls r h Q) : AW am_P d L M pc ls (.int x :: r) h Q := aw_if hf (fun z => kt (of_decide_eq_true z)) (fun z => kf (of_decide_eq_false z))
theorem aw_ge {off : Int} {x : Int32} {r : List Value} (hf : am_at (am_P M).2.2.2 pc = some (.ifCond .ge off, nx, a, b)) (kt : 0 ≤ x → AW am_P d L M a ls r h Q) (kf : ¬ 0 ≤ x → AW am_P d L M nx ls r h Q) : AW am_P d L M pc ls (.int x :: r) h Q := aw_if hf (fun z => kt (of_decide_eq_true z)) (fun z => kf (of_decide_eq_false z))
theorem aw_gt {off : Int} {x : Int32} {r : List Value} (hf : am_at (am_P M).2.2.2 pc = some (.ifCond .gt off, nx, a, b)) (kt : 0 < x → AW am_P d L M a ls r h Q) (kf : ¬ 0 < x → AW am_P d L M nx ls r h Q) : AW am_P d L M pc ls (.int x :: r) h Q := aw_if hf (fun z => kt (of_decide_eq_true z)) (fun z => kf (of_decide_eq_false z))
theorem aw_le {off : Int} {x : Int32} {r : List Value} (hf : am_at (am_P M).2.2.2 pc = some (.ifCond .le off, nx, a, b)) (kt : x ≤ 0 → AW am_P d L M a ls r h Q) (kf : ¬ x ≤ 0 → AW am_P d L M nx ls r h Q) : AW am_P d L M pc ls (.int x :: r) h Q := aw_if hf (fun z => kt (of_decide_eq_true z)) (fun z => kf (of_decide_eq_false z))
theorem aw_ieq {off : Int} {x y : Int32} {r : List Value} (hf : am_at (am_P M).2.2.2 pc = some (.if_icmp .eq off, nx, a, b)) (kt : x = y → AW am_P d L M a ls r h Q) (kf : ¬ x = y → AW am_P d L M nx ls r h Q) : AW am_P d L M pc ls (.int y :: .int x :: r) h Q := aw_ii hf (fun z => kt (of_decide_eq_true z)) (fun z => kf (of_decide_eq_false z))
theorem aw_ine {off : Int} {x y : Int32} {r : List Value} (hf : am_at (am_P M).2.2.2 pc = some (.if_icmp .ne off, nx, a, b)) (kt : ¬ x = y → AW am_P d L M a ls r h Q) (kf : x = y → AW am_P d L M nx ls r h Q) : AW am_P d L M pc ls (.int y :: .int x :: r) h Q := aw_ii hf (fun z => kt (of_decide_eq_true z)) (fun z => kf (Decidable.of_not_not (of_decide_eq_false z)))
theorem aw_ilt {off : Int} {x y : Int32} {r : List Value} (hf : am_at (am_P M).2.2.2 pc = some (.if_icmp .lt off, nx, a, b)) (kt : x < y → AW am_P d L M a ls r h Q) (kf : ¬ x < y → AW am_P d L M nx ls r h Q) : AW am_P d L M pc ls (.int y :: .int x :: r) h Q := aw_ii hf (fun z => kt (of_decide_eq_true z)) (fun z => kf (of_decide_eq_false z))
theorem aw_ige {off : Int} {x y : Int32} {r : List Value} (hf : am_at (am_P M).2.2.2 pc = some (.if_icmp .ge off, nx, a, b)) (kt : y ≤ x → AW am_P d L M a ls r h Q) (kf : ¬ y ≤ x → AW am_P d L M nx ls r h Q) : AW am_P d L M pc ls (.int y :: .int x :: r) h Q := aw_ii hf (fun z => kt (of_decide_eq_true z)) (fun z => kf (of_decide_eq_false z))
theorem aw_igt {off : Int} {x y : Int32} {r : List Value} (hf : am_at (am_P M).2.2.2 pc = some (.if_icmp .gt off, nx, a, b)) (kt : y < x → AW am_P d L M a ls r h Q) (kf : ¬ y < x → AW am_P d L M nx ls r h Q) : AW am_P d L M pc ls (.int y :: .int x :: r) h Q := aw_ii hf (fun z => kt (of_decide_eq_true z)) (fun z => kf (of_decide_eq_false z))
theorem aw_ile {off : Int} {x y : Int32} {r : List Value} (hf : am_at (am_P M).2.2.2 pc = some (.if_icmp .le off, nx, a, b)) (kt : x ≤ y → AW am_P d L M a ls r h Q) (kf : ¬ x ≤ y → AW am_P d L M nx ls r h Q) : AW am_P d L M pc ls (.int y :: .int x :: r) h Q := aw_ii hf (fun z => kt (of_decide_eq_true z)) (fun z => kf (of_decide_eq_false z))
/-- the heap -/
theorem aw_getf {idx q : Nat} {fs : List Value} {v : Value} {r : List Value} (hf : am_at (am_P M).2.2.2 pc = some (.getfield idx, nx, a, b)) (hc : h.2.2 q = .inl (a, fs)) (hv : fs[b]? = some v) (k : AW am_P d L M nx ls (v :: r) h Q) : AW am_P d L M pc ls (.ref q :: r) h Q := by
  refine aw hf ?_ k
  show am_cO (h.2.2 q) (fun ci fs => bif Nat.beq ci a then (match fs[b]? with
    | some v => some (.inl (nx, ls, v :: r, h))
    | none => none) else none) = _
  rw [hc]
  show (bif Nat.beq a a then (match fs[b]? with
    | some v => some (.inl (nx, ls, v :: r, h))
    | none => none) else (none : am_O)) = _
  rw [hv, Nat.beq_refl]
  rfl
theorem aw_putf {idx q : Nat} {fs fs' : List Value} {v : Value} {r : List Value} (hf : am_at (am_P M).2.2.2 pc = some (.putfield idx, nx, a, b)) (hc : h.2.2 q = .inl (a, fs)) (hl : Nat.blt (b / 8) fs.length = true) (hft : am_fit (b % 4) v = true) (hs : fs.set (b / 8) v = fs') (h8 : 8 ≤ q) (k : AW am_P d L M nx ls r (am_up h q (.inl (a, fs'))) Q) : AW am_P d L M pc ls (v :: .ref q :: r) h Q := by
  subst hs
  refine aw hf ?_ k
  show am_cO (h.2.2 q) (fun ci fs => bif Nat.beq ci a && Nat.blt (b / 8) fs.length && am_fit (b % 4) v && Nat.ble 8 q then some (.inl (nx, ls, r, am_up h q (.inl (ci, fs.set (b / 8) v)))) else none) = _
  rw [hc]
  show (bif Nat.beq a a && Nat.blt (b / 8) fs.length && am_fit (b % 4) v && Nat.ble 8 q then some (.inl (nx, ls, r, am_up h q (.inl (a, fs.set (b / 8) v)))) else (none : am_O)) = _
  rw [hl, hft, Nat.beq_refl, Nat.ble_eq_true_of_le h8]
  rfl
theorem aw_ix {j : Int32} {n k : Nat} (hj : j = nI k) (hk : k < n) (hn : n < 2147483648) (o : am_O) : am_ix j n o = o ∧ j.toNatClampNeg = k := by
  subst hj
  have h1 : (nI k).toNatClampNeg = k := nI_clamp (by omega)
  have h2 : ¬ nI k < 0 := nI_pos (by omega)
  unfold am_ix
  rw [if_neg (fun z => z.elim h2 (fun z => by rw [h1] at z; omega))]
  exact ⟨rfl, h1⟩
theorem aw_iald {q k n : Nat} {j : Int32} {f : Nat → Int32} {r : List Value} (hf : am_at (am_P M).2.2.2 pc = some (.iaload, nx, a, b)) (hc : h.2.2 q = .inr (0, n, .inl f)) (hj : j = nI k) (hk : k < n) (hn : n < 2147483648) (kk : AW am_P d L M nx ls (.int (f k) :: r) h Q) : AW am_P d L M pc ls (.int j :: .ref q :: r) h Q := by
  refine aw hf ?_ kk
  show am_cA (h.2.2 q) 0 (fun n f => am_ix j n (some (.inl (nx, ls, .int (f j.toNatClampNeg) :: r, h)))) = _
  rw [hc]
  show am_ix j n (some (.inl (nx, ls, .int (f j.toNatClampNeg) :: r, h))) = _
  obtain ⟨e1, e2⟩ := aw_ix hj hk hn (some (.inl (nx, ls, .int (f j.toNatClampNeg) :: r, h)))
  rw [e1, e2]
theorem aw_bald {q k n : Nat} {j : Int32} {f : Nat → Int32} {r : List Value} (hf : am_at (am_P M).2.2.2 pc = some (.baload, nx, a, b)) (hc : h.2.2 q = .inr (a, n, .inl f)) (hj : j = nI k) (hk : k < n) (hn : n < 2147483648) (kk : AW am_P d L M nx ls (.int (f k) :: r) h Q) : AW am_P d L M pc ls (.int j :: .ref q :: r) h Q := by
  refine aw hf ?_ kk
  show am_cA (h.2.2 q) a (fun n f => am_ix j n (some (.inl (nx, ls, .int (f j.toNatClampNeg) :: r, h)))) = _
  rw [hc]
  show (bif Nat.beq a a then am_ix j n (some (.inl (nx, ls, .int (f j.toNatClampNeg) :: r, h))) else none) = _
  obtain ⟨e1, e2⟩ := aw_ix hj hk hn (some (.inl (nx, ls, .int (f j.toNatClampNeg) :: r, h)))
  rw [e1, e2, Nat.beq_refl]
  rfl
theorem aw_lald {q k n : Nat} {j : Int32} {f : Nat → Int64} {r : List Value} (hf : am_at (am_P M).2.2.2 pc = some (.laload, nx, a, b)) (hc : h.2.2 q = .inr (3, n, .inr (.inl f))) (hj : j = nI k) (hk : k < n) (hn : n < 2147483648) (kk : AW am_P d L M nx ls (.long (f k) :: r) h Q) : AW am_P d L M pc ls (.int j :: .ref q :: r) h Q := by
  refine aw hf ?_ kk
  show am_cL (h.2.2 q) (fun n f => am_ix j n (some (.inl (nx, ls, .long (f j.toNatClampNeg) :: r, h)))) = _
  rw [hc]
  show am_ix j n (some (.inl (nx, ls, .long (f j.toNatClampNeg) :: r, h))) = _
  obtain ⟨e1, e2⟩ := aw_ix hj hk hn (some (.inl (nx, ls, .long (f j.toNatClampNeg) :: r, h)))
  rw [e1, e2]
theorem aw_aald {q k n y : Nat} {j : Int32} {f : Nat → Option Nat} {r : List Value} (hf : am_at (am_P M).2.2.2 pc = some (.aaload, nx, a, b)) (hc : h.2.2 q = .inr (a, n, .inr (.inr f))) (hj : j = nI k) (hk : k < n) (hn : n < 2147483648) (hy : f k = some y) (kk : AW am_P d L M nx ls (.ref y :: r) h Q) : AW am_P d L M pc ls (.int j :: .ref q :: r) h Q := by
  refine aw hf ?_ kk
  show am_cQ (h.2.2 q) (fun t n f => bif Nat.beq t a then am_ix j n (some (.inl (nx, ls, va_rf (f j.toNatClampNeg) :: r, h))) else none) = _
  rw [hc]
  show (bif Nat.beq a a then am_ix j n (some (.inl (nx, ls, va_rf (f j.toNatClampNeg) :: r, h))) else none) = _
  obtain ⟨e1, e2⟩ := aw_ix hj hk hn (some (.inl (nx, ls, va_rf (f j.toNatClampNeg) :: r, h)))
  rw [e1, e2, Nat.beq_refl, hy]
  rfl
theorem aw_aaldN {q k n : Nat} {j : Int32} {f : Nat → Option Nat} {r : List Value} (hf : am_at (am_P M).2.2.2 pc = some (.aaload, nx, a, b)) (hc : h.2.2 q = .inr (a, n, .inr (.inr f))) (hj : j = nI k) (hk : k < n) (hn : n < 2147483648) (hy : f k = none) (kk : AW am_P d L M nx ls (.null :: r) h Q) : AW am_P d L M pc ls (.int j :: .ref q :: r) h Q := by
  refine aw hf ?_ kk
  show am_cQ (h.2.2 q) (fun t n f => bif Nat.beq t a then am_ix j n (some (.inl (nx, ls, va_rf (f j.toNatClampNeg) :: r, h))) else none) = _
  rw [hc]
  show (bif Nat.beq a a then am_ix j n (some (.inl (nx, ls, va_rf (f j.toNatClampNeg) :: r, h))) else none) = _
  obtain ⟨e1, e2⟩ := aw_ix hj hk hn (some (.inl (nx, ls, va_rf (f j.toNatClampNeg) :: r, h)))
  rw [e1, e2, Nat.beq_refl, hy]
  rfl
theorem aw_iast {q k n : Nat} {j x : Int32} {f : Nat → Int32} {r : List Value} (hf : am_at (am_P M).2.2.2 pc = some (.iastore, nx, a, b)) (hc : h.2.2 q = .inr (0, n, .inl f)) (hj : j = nI k) (hk : k < n) (hn : n < 2147483648) (h8 : 8 ≤ q) (kk : AW am_P d L M nx ls r (am_up h q (.inr (0, n, .inl (upd f k x)))) Q) : AW am_P d L M pc ls (.int x :: .int j :: .ref q :: r) h Q := by
  refine aw hf ?_ kk
  show am_cA (h.2.2 q) 0 (fun n f => am_ix j n (if q < 8 then none else some (.inl (nx, ls, r, am_up h q (.inr (0, n, .inl (upd f j.toNatClampNeg x))))))) = _
  simp only [if_neg (show ¬ q < 8 by omega)]
  rw [hc]
  show am_ix j n (some (.inl (nx, ls, r, am_up h q (.inr (0, n, .inl (upd f j.toNatClampNeg x)))))) = _
  obtain ⟨e1, e2⟩ := aw_ix hj hk hn (some (.inl (nx, ls, r, am_up h q (.inr (0, n, .inl (upd f j.toNatClampNeg x))))))
  rw [e1, e2]
theorem aw_bast {q k n : Nat} {j x : Int32} {f : Nat → Int32} {r : List Value} (hf : am_at (am_P M).2.2.2 pc = some (.bastore, nx, a, b)) (hc : h.2.2 q = .inr (a, n, .inl f)) (hj : j = nI k) (hk : k < n) (hn : n < 2147483648) (h8 : 8 ≤ q) (kk : AW am_P d L M nx ls r (am_up h q (.inr (a, n, .inl (upd f k (vp_nar (bif Nat.beq a 1 then .byte else .boolean) x))))) Q) : AW am_P d L M pc ls (.int x :: .int j :: .ref q :: r) h Q := by
  refine aw hf ?_ kk
  show am_cA (h.2.2 q) a (fun n f => am_ix j n (if q < 8 then none else some (.inl (nx, ls, r, am_up h q (.inr (a, n, .inl (upd f j.toNatClampNeg (vp_nar (bif Nat.beq a 1 then .byte else .boolean) x)))))))) = _
  simp only [if_neg (show ¬ q < 8 by omega)]
  rw [hc]
  show (bif Nat.beq a a then am_ix j n (some (.inl (nx, ls, r, am_up h q (.inr (a, n, .inl (upd f j.toNatClampNeg (vp_nar (bif Nat.beq a 1 then .byte else .boolean) x))))))) else none) = _
  obtain ⟨e1, e2⟩ := aw_ix hj hk hn (some (.inl (nx, ls, r, am_up h q (.inr (a, n, .inl (upd f j.toNatClampNeg (vp_nar (bif Nat.beq a 1 then .byte else .boolean) x)))))))
  rw [e1, e2, Nat.beq_refl]
  rfl
theorem aw_last {q k n : Nat} {j : Int32} {x : Int64} {f : Nat → Int64} {r : List Value} (hf : am_at (am_P M).2.2.2 pc = some (.lastore, nx, a, b)) (hc : h.2.2 q = .inr (3, n, .inr (.inl f))) (hj : j = nI k) (hk : k < n) (hn : n < 2147483648) (h8 : 8 ≤ q) (kk : AW am_P d L M nx ls r (am_up h q (.inr (3, n, .inr (.inl (vp_updL f k x))))) Q) : AW am_P d L M pc ls (.long x :: .int j :: .ref q :: r) h Q := by
  refine aw hf ?_ kk
  show am_cL (h.2.2 q) (fun n f => am_ix j n (if q < 8 then none else some (.inl (nx, ls, r, am_up h q (.inr (3, n, .inr (.inl (vp_updL f j.toNatClampNeg x)))))))) = _
  simp only [if_neg (show ¬ q < 8 by omega)]
  rw [hc]
  show am_ix j n (some (.inl (nx, ls, r, am_up h q (.inr (3, n, .inr (.inl (vp_updL f j.toNatClampNeg x))))))) = _
  obtain ⟨e1, e2⟩ := aw_ix hj hk hn (some (.inl (nx, ls, r, am_up h q (.inr (3, n, .inr (.inl (vp_updL f j.toNatClampNeg x)))))))
  rw [e1, e2]
theorem aw_aast {q k n y t : Nat} {j : Int32} {f : Nat → Option Nat} {r : List Value} (hf : am_at (am_P M).2.2.2 pc = some (.aastore, nx, a, b)) (hc : h.2.2 q = .inr (t, n, .inr (.inr f))) (hj : j = nI k) (hk : k < n) (hn : n < 2147483648) (h8 : 8 ≤ q) (hy8 : 8 ≤ y) (hy : y < h.1) (he : am_elt t (h.2.2 y) = true) (kk : AW am_P d L M nx ls r (am_up h q (.inr (t, n, .inr (.inr (va_up f k (some y)))))) Q) : AW am_P d L M pc ls (.ref y :: .int j :: .ref q :: r) h Q := by
  refine aw hf ?_ kk
  show am_cQ (h.2.2 q) (fun t n f => am_ix j n (if q < 8 ∨ y < 8 ∨ h.1 ≤ y then none else bif am_elt t (h.2.2 y) then some (.inl (nx, ls, r, am_up h q (.inr (t, n, .inr (.inr (va_up f j.toNatClampNeg (some y))))))) else none)) = _
  simp only [if_neg (show ¬ (q < 8 ∨ y < 8 ∨ h.1 ≤ y) by omega)]
  rw [hc]
  show am_ix j n (bif am_elt t (h.2.2 y) then some (.inl (nx, ls, r, am_up h q (.inr (t, n, .inr (.inr (va_up f j.toNatClampNeg (some y))))))) else none) = _
  rw [he]
  show am_ix j n (some (.inl (nx, ls, r, am_up h q (.inr (t, n, .inr (.inr (va_up f j.toNatClampNeg (some y)))))))) = _
  obtain ⟨e1, e2⟩ := aw_ix hj hk hn (some (.inl (nx, ls, r, am_up h q (.inr (t, n, .inr (.inr (va_up f j.toNatClampNeg (some y))))))))
  rw [e1, e2]
theorem aw_alen {q n t : Nat} {c : (Nat → Int32) ⊕ (Nat → Int64) ⊕ (Nat → Option Nat)} {r : List Value} (hf : am_at (am_P M).2.2.2 pc = some (.arraylength, nx, a, b)) (hc : h.2.2 q = .inr (t, n, c)) (ht : Nat.blt t 6 = true) (kk : AW am_P d L M nx ls (.int (nI n) :: r) h Q) : AW am_P d L M pc ls (.ref q :: r) h Q := by
  refine aw hf ?_ kk
  show (match h.2.2 q with
    | Sum.inr (t, n, _) => (bif Nat.blt t 6 then some (.inl (nx, ls, .int (Int32.ofNat n) :: r, h)) else none : am_O)
    | _ => none) = _
  rw [hc]
  show (bif Nat.blt t 6 then some (.inl (nx, ls, .int (Int32.ofNat n) :: r, h)) else (none : am_O)) = _
  rw [ht]
  rfl
/-- divisions by what isn't 0 -/
theorem aw_idiv {x y : Int32} {r : List Value} (hf : am_at (am_P M).2.2.2 pc = some (.idiv, nx, a, b)) (hy : ¬ y = 0) (kk : AW am_P d L M nx ls (.int (x / y) :: r) h Q) : AW am_P d L M pc ls (.int y :: .int x :: r) h Q := by
  refine aw hf ?_ kk
  show (if y = 0 then none else some (.inl (nx, ls, .int (x / y) :: r, h)) : am_O) = _
  rw [if_neg hy]
theorem aw_irem {x y : Int32} {r : List Value} (hf : am_at (am_P M).2.2.2 pc = some (.irem, nx, a, b)) (hy : ¬ y = 0) (kk : AW am_P d L M nx ls (.int (x - x / y * y) :: r) h Q) : AW am_P d L M pc ls (.int y :: .int x :: r) h Q := by
  refine aw hf ?_ kk
  show (if y = 0 then none else some (.inl (nx, ls, .int (x - x / y * y) :: r, h)) : am_O) = _
  rw [if_neg hy]
theorem aw_ldiv {x y : Int64} {r : List Value} (hf : am_at (am_P M).2.2.2 pc = some (.ldiv, nx, a, b)) (hy : ¬ y = 0) (kk : AW am_P d L M nx ls (.long (x / y) :: r) h Q) : AW am_P d L M pc ls (.long y :: .long x :: r) h Q := by
  refine aw hf ?_ kk
  show (if y = 0 then none else some (.inl (nx, ls, .long (x / y) :: r, h)) : am_O) = _
  rw [if_neg hy]
theorem aw_lrem {x y : Int64} {r : List Value} (hf : am_at (am_P M).2.2.2 pc = some (.lrem, nx, a, b)) (hy : ¬ y = 0) (kk : AW am_P d L M nx ls (.long (x - x / y * y) :: r) h Q) : AW am_P d L M pc ls (.long y :: .long x :: r) h Q := by
  refine aw hf ?_ kk
  show (if y = 0 then none else some (.inl (nx, ls, .long (x - x / y * y) :: r, h)) : am_O) = _
  rw [if_neg hy]
/-- ends -/
theorem aw_iret {x : Int32} (hf : am_at (am_P M).2.2.2 pc = some (.ireturn, nx, a, b)) (hr : am_rt (am_P M).2.2.1 x = true) (q : Q (some (.int x)) h) : AW am_P d L M pc ls [.int x] h Q := by
  refine aw_ret0 hf ?_ q
  show (bif am_rt (am_P M).2.2.1 x then some (.inr (.inl (some (.int x)))) else (none : am_O)) = _
  rw [hr]
  rfl
theorem aw_vret (hf : am_at (am_P M).2.2.2 pc = some (.return_, nx, a, b)) (hr : Nat.beq (am_P M).2.2.1 0 = true) (q : Q none h) : AW am_P d L M pc ls [] h Q := by
  refine aw_ret0 hf ?_ q
  show (bif Nat.beq (am_P M).2.2.1 0 then some (.inr (.inl none)) else (none : am_O)) = _
  rw [hr]
  rfl
theorem aw_lret {x : Int64} (hf : am_at (am_P M).2.2.2 pc = some (.lreturn, nx, a, b)) (hr : Nat.beq (am_P M).2.2.1 4 = true) (q : Q (some (.long x)) h) : AW am_P d L M pc ls [.long x] h Q := by
  refine aw_ret0 hf ?_ q
  show (bif Nat.beq (am_P M).2.2.1 4 then some (.inr (.inl (some (.long x)))) else (none : am_O)) = _
  rw [hr]
  rfl
/-- calls: the goal behind the call is the callee's Q -/
theorem aw_cs {i : Instr} {y pc' d1 L1 : Nat} {vs : List Value} {st' : List Value} (hf : am_at (am_P M).2.2.2 pc = some (i, nx, a, b)) (hs : am_do am_P (d + 1) L (am_P M).2.2.1 i pc nx a b ls st h = some (.inr (.inr (y, vs, pc', ls', st', h)))) (hd : d1 ≤ d) (hL : am_lc am_P y + L1 ≤ L) (hA : (am_ent0 vs).length ≤ (am_P y).2.1) (hc : AC am_P d1 L1 y vs h (fun r h1 => AW am_P (d + 1) L M pc' ls' (r.toList ++ st') h1 Q)) : AW am_P (d + 1) L M pc ls st h Q :=
  aw_call0 hf hs hd hL hA hc (fun _ _ k => k)
theorem aw_cv {idx q d1 L1 ci : Nat} {vs : List Value} {fs : List Value} {st' : List Value} (hf : am_at (am_P M).2.2.2 pc = some (.invokevirtual idx, nx, a, b)) (ht : am_take (b + 1) [] st = some (.ref q :: vs, st')) (hq : h.2.2 q = .inl (ci, fs)) (hci : Nat.beq ci (am_P a).1 = true) (h8 : Nat.ble (am_cat st') 8 = true) (hd : d1 ≤ d) (hL : am_lc am_P a + L1 ≤ L) (hA : (am_ent0 (.ref q :: vs)).length ≤ (am_P a).2.1) (hc : AC am_P d1 L1 a (.ref q :: vs) h (fun r h1 => AW am_P (d + 1) L M nx ls (r.toList ++ st') h1 Q)) : AW am_P (d + 1) L M pc ls st h Q := by
  refine aw_cs hf ?_ hd hL hA hc
  show (match am_take (b + 1) [] st with
    | some (.ref p :: vs, r) => am_cO (h.2.2 p) fun ci _ => bif Nat.beq ci (am_P a).1 && Nat.ble (am_cat r) 8 then some (.inr (.inr (a, .ref p :: vs, nx, ls, r, h))) else none
    | _ => (none : am_O)) = _
  rw [ht]
  show am_cO (h.2.2 q) (fun ci _ => bif Nat.beq ci (am_P a).1 && Nat.ble (am_cat st') 8 then some (.inr (.inr (a, .ref q :: vs, nx, ls, st', h))) else none) = _
  rw [hq]
  show (bif Nat.beq ci (am_P a).1 && Nat.ble (am_cat st') 8 then some (.inr (.inr (a, .ref q :: vs, nx, ls, st', h))) else none : am_O) = _
  rw [hci, h8]
  rfl
/-- a method from its start -/
theorem AC.of {y : Nat} {vs : List Value} (he : am_ent vs (am_P y).2.1 = ls) (k : AW am_P d L y 0 ls [] h Q) : AC am_P d L y vs h Q := by
  unfold AC
  rw [he]
  exact k
/-- the heap behind a write -/
theorem hg_eq {q : Nat} {c : am_C} : (am_up h q c).2.2 q = c := by simp [am_up, va_up]
theorem hg_ne {q p : Nat} {c x : am_C} (hn : p ≠ q) (hx : h.2.2 p = x) : (am_up h q c).2.2 p = x := by
  simp only [am_up, va_up, if_neg hn]
  exact hx
end AWR
