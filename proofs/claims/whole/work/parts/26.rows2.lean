/-! ===== rows over numbers that are no less than 0 ===== -/
section AWN
variable {d L M pc nx a b : Nat} {ls ls' : List (Option Value)} {st : List Value} {h : am_H} {Q : Option Value → am_H → Prop}
theorem aw_addn {x y : Nat} {r : List Value} (hf : am_at (am_P M).2.2.2 pc = some (.iadd, nx, a, b)) (k : AW am_P d L M nx ls (.int (nI (x + y)) :: r) h Q) : AW am_P d L M pc ls (.int (nI y) :: .int (nI x) :: r) h Q := by
  refine aw hf rfl ?_
  rw [nI_add]
  exact k
theorem aw_muln {x y : Nat} {r : List Value} (hf : am_at (am_P M).2.2.2 pc = some (.imul, nx, a, b)) (k : AW am_P d L M nx ls (.int (nI (x * y)) :: r) h Q) : AW am_P d L M pc ls (.int (nI y) :: .int (nI x) :: r) h Q := by
  refine aw hf rfl ?_
  rw [pk_mul]
  exact k
theorem aw_subn {x y : Nat} {r : List Value} (hf : am_at (am_P M).2.2.2 pc = some (.isub, nx, a, b)) (hy : y ≤ x) (k : AW am_P d L M nx ls (.int (nI (x - y)) :: r) h Q) : AW am_P d L M pc ls (.int (nI y) :: .int (nI x) :: r) h Q := by
  refine aw hf rfl ?_
  rw [pk_sub hy]
  exact k
theorem aw_divn {x y : Nat} {r : List Value} (hf : am_at (am_P M).2.2.2 pc = some (.idiv, nx, a, b)) (h0 : 0 < y) (hx : x < 2147483648) (hy : y < 2147483648) (k : AW am_P d L M nx ls (.int (nI (x / y)) :: r) h Q) : AW am_P d L M pc ls (.int (nI y) :: .int (nI x) :: r) h Q := by
  refine aw_idiv hf (nI_ne0 h0 hy) ?_
  rw [pk_div hx h0 hy]
  exact k
theorem aw_remn {x y : Nat} {r : List Value} (hf : am_at (am_P M).2.2.2 pc = some (.irem, nx, a, b)) (h0 : 0 < y) (hx : x < 2147483648) (hy : y < 2147483648) (k : AW am_P d L M nx ls (.int (nI (x % y)) :: r) h Q) : AW am_P d L M pc ls (.int (nI y) :: .int (nI x) :: r) h Q := by
  refine aw_irem hf (nI_ne0 h0 hy) ?_
  rw [pk_rem hx h0 hy]
  exact k
theorem aw_incn {j : Nat} {n : Int} {x c : Nat} (hf : am_at (am_P M).2.2.2 pc = some (.iinc j n, nx, a, b)) (hg : am_get ls a = some (.int (nI x))) (hc : Int32.ofInt n = nI c) (hl : am_st1 ls a (.int (nI (x + c))) = ls') (k : AW am_P d L M nx ls' st h Q) : AW am_P d L M pc ls st h Q := by
  refine aw_inc hf hg hc ?_ k
  rw [nI_add]
  exact hl
theorem aw_decn {j : Nat} {n : Int} {x c : Nat} (hf : am_at (am_P M).2.2.2 pc = some (.iinc j n, nx, a, b)) (hg : am_get ls a = some (.int (nI x))) (hc : Int32.ofInt n = - nI c) (hx : c ≤ x) (hl : am_st1 ls a (.int (nI (x - c))) = ls') (k : AW am_P d L M nx ls' st h Q) : AW am_P d L M pc ls st h Q := by
  refine aw_inc hf hg hc ?_ k
  rw [← Int32.sub_eq_add_neg, pk_sub hx]
  exact hl
theorem aw_ieqn {off : Int} {x y : Nat} {r : List Value} (hf : am_at (am_P M).2.2.2 pc = some (.if_icmp .eq off, nx, a, b)) (kt : x = y → AW am_P d L M a ls r h Q) (kf : ¬ x = y → AW am_P d L M nx ls r h Q) (hx : x < 2147483648 := by omega) (hy : y < 2147483648 := by omega) : AW am_P d L M pc ls (.int (nI y) :: .int (nI x) :: r) h Q := aw_ieq hf (fun z => kt ((nI_eq hx hy).mp z)) (fun z => kf (fun w => z ((nI_eq hx hy).mpr w)))
theorem aw_inen {off : Int} {x y : Nat} {r : List Value} (hf : am_at (am_P M).2.2.2 pc = some (.if_icmp .ne off, nx, a, b)) (kt : ¬ x = y → AW am_P d L M a ls r h Q) (kf : x = y → AW am_P d L M nx ls r h Q) (hx : x < 2147483648 := by omega) (hy : y < 2147483648 := by omega) : AW am_P d L M pc ls (.int (nI y) :: .int (nI x) :: r) h Q := aw_ine hf (fun z => kt (fun w => z ((nI_eq hx hy).mpr w))) (fun z => kf ((nI_eq hx hy).mp z))
theorem aw_iltn {off : Int} {x y : Nat} {r : List Value} (hf : am_at (am_P M).2.2.2 pc = some (.if_icmp .lt off, nx, a, b)) (kt : x < y → AW am_P d L M a ls r h Q) (kf : ¬ x < y → AW am_P d L M nx ls r h Q) (hx : x < 2147483648 := by omega) (hy : y < 2147483648 := by omega) : AW am_P d L M pc ls (.int (nI y) :: .int (nI x) :: r) h Q := aw_ilt hf (fun z => kt ((nI_ltI hx hy).mp z)) (fun z => kf (fun w => z ((nI_ltI hx hy).mpr w)))
theorem aw_igen {off : Int} {x y : Nat} {r : List Value} (hf : am_at (am_P M).2.2.2 pc = some (.if_icmp .ge off, nx, a, b)) (kt : y ≤ x → AW am_P d L M a ls r h Q) (kf : ¬ y ≤ x → AW am_P d L M nx ls r h Q) (hx : x < 2147483648 := by omega) (hy : y < 2147483648 := by omega) : AW am_P d L M pc ls (.int (nI y) :: .int (nI x) :: r) h Q := aw_ige hf (fun z => kt ((nI_leI hy hx).mp z)) (fun z => kf (fun w => z ((nI_leI hy hx).mpr w)))
theorem aw_igtn {off : Int} {x y : Nat} {r : List Value} (hf : am_at (am_P M).2.2.2 pc = some (.if_icmp .gt off, nx, a, b)) (kt : y < x → AW am_P d L M a ls r h Q) (kf : ¬ y < x → AW am_P d L M nx ls r h Q) (hx : x < 2147483648 := by omega) (hy : y < 2147483648 := by omega) : AW am_P d L M pc ls (.int (nI y) :: .int (nI x) :: r) h Q := aw_igt hf (fun z => kt ((nI_ltI hy hx).mp z)) (fun z => kf (fun w => z ((nI_ltI hy hx).mpr w)))
theorem aw_ilen {off : Int} {x y : Nat} {r : List Value} (hf : am_at (am_P M).2.2.2 pc = some (.if_icmp .le off, nx, a, b)) (kt : x ≤ y → AW am_P d L M a ls r h Q) (kf : ¬ x ≤ y → AW am_P d L M nx ls r h Q) (hx : x < 2147483648 := by omega) (hy : y < 2147483648 := by omega) : AW am_P d L M pc ls (.int (nI y) :: .int (nI x) :: r) h Q := aw_ile hf (fun z => kt ((nI_leI hx hy).mp z)) (fun z => kf (fun w => z ((nI_leI hx hy).mpr w)))
theorem aw_eqn {off : Int} {x : Nat} {r : List Value} (hf : am_at (am_P M).2.2.2 pc = some (.ifCond .eq off, nx, a, b)) (kt : x = 0 → AW am_P d L M a ls r h Q) (kf : ¬ x = 0 → AW am_P d L M nx ls r h Q) (hx : x < 2147483648 := by omega) : AW am_P d L M pc ls (.int (nI x) :: r) h Q := aw_eq hf (fun z => kt ((nI_eq hx (by decide)).mp z)) (fun z => kf (fun w => z ((nI_eq (b := 0) hx (by decide)).mpr w)))
theorem aw_nen {off : Int} {x : Nat} {r : List Value} (hf : am_at (am_P M).2.2.2 pc = some (.ifCond .ne off, nx, a, b)) (kt : ¬ x = 0 → AW am_P d L M a ls r h Q) (kf : x = 0 → AW am_P d L M nx ls r h Q) (hx : x < 2147483648 := by omega) : AW am_P d L M pc ls (.int (nI x) :: r) h Q := aw_ne hf (fun z => kt (fun w => z ((nI_eq (b := 0) hx (by decide)).mpr w))) (fun z => kf ((nI_eq hx (by decide)).mp z))
theorem aw_gtn {off : Int} {x : Nat} {r : List Value} (hf : am_at (am_P M).2.2.2 pc = some (.ifCond .gt off, nx, a, b)) (kt : 0 < x → AW am_P d L M a ls r h Q) (kf : x = 0 → AW am_P d L M nx ls r h Q) (hx : x < 2147483648 := by omega) : AW am_P d L M pc ls (.int (nI x) :: r) h Q := aw_gt hf (fun z => kt ((nI_ltI (a := 0) (by decide) hx).mp z)) (fun z => kf (Nat.eq_zero_of_not_pos (fun w => z ((nI_ltI (a := 0) (by decide) hx).mpr w))))
theorem aw_len {off : Int} {x : Nat} {r : List Value} (hf : am_at (am_P M).2.2.2 pc = some (.ifCond .le off, nx, a, b)) (kt : x = 0 → AW am_P d L M a ls r h Q) (kf : 0 < x → AW am_P d L M nx ls r h Q) (hx : x < 2147483648 := by omega) : AW am_P d L M pc ls (.int (nI x) :: r) h Q := aw_le hf (fun z => kt (Nat.le_zero.mp ((nI_leI (b := 0) hx (by decide)).mp z))) (fun z => kf (Nat.pos_of_ne_zero (fun w => z ((nI_leI (b := 0) hx (by decide)).mpr (Nat.le_of_eq w)))))
theorem aw_ltn {off : Int} {x : Nat} {r : List Value} (hf : am_at (am_P M).2.2.2 pc = some (.ifCond .lt off, nx, a, b)) (kf : AW am_P d L M nx ls r h Q) (hx : x < 2147483648 := by omega) : AW am_P d L M pc ls (.int (nI x) :: r) h Q := aw_lt hf (fun z => absurd z (nI_pos hx)) (fun _ => kf)
theorem aw_gen {off : Int} {x : Nat} {r : List Value} (hf : am_at (am_P M).2.2.2 pc = some (.ifCond .ge off, nx, a, b)) (kt : AW am_P d L M a ls r h Q) (hx : x < 2147483648 := by omega) : AW am_P d L M pc ls (.int (nI x) :: r) h Q := aw_ge hf (fun _ => kt) (fun z => absurd (Int32.not_lt.mp (nI_pos hx)) z)
/-- x is no less than 0 there, or the whole is refused -/
theorem aw_ltx {off : Int} {x : Int32} {r : List Value} (hf : am_at (am_P M).2.2.2 pc = some (.ifCond .lt off, nx, a, b)) (kt : x < 0 → AW am_P d L M a ls r h Q) (kf : ∀ j : Nat, j < 2147483648 → x = nI j → AW am_P d L M nx ls r h Q) : AW am_P d L M pc ls (.int x :: r) h Q := aw_lt hf kt (fun z => by obtain ⟨j, hj, e⟩ := nI_of z; exact kf j hj e)
/-- minus one -/
theorem aw_ieqm {off : Int} {x : Nat} {r : List Value} (hf : am_at (am_P M).2.2.2 pc = some (.if_icmp .eq off, nx, a, b)) (kf : AW am_P d L M nx ls r h Q) (hx : x < 2147483648 := by omega) : AW am_P d L M pc ls (.int (-1) :: .int (nI x) :: r) h Q := aw_ieq hf (fun z => absurd z (n_m1 hx)) (fun _ => kf)
theorem aw_inem {off : Int} {x : Nat} {r : List Value} (hf : am_at (am_P M).2.2.2 pc = some (.if_icmp .ne off, nx, a, b)) (kt : AW am_P d L M a ls r h Q) (hx : x < 2147483648 := by omega) : AW am_P d L M pc ls (.int (-1) :: .int (nI x) :: r) h Q := aw_ine hf (fun _ => kt) (fun z => absurd z (n_m1 hx))
/-- a loop: from its head it comes back to its head with one turn less to go, or ends -/
theorem aw_loop {α : Type} {ll : Nat → α → List (Option Value)} {hh : Nat → α → am_H} {I : Nat → α → Prop} {N : Nat} (hs : ∀ k x, k < N → I k x → (∀ y, I (k + 1) y → AW am_P d L M pc (ll (k + 1) y) [] (hh (k + 1) y) Q) → AW am_P d L M pc (ll k x) [] (hh k x) Q) (he : ∀ x, I N x → AW am_P d L M pc (ll N x) [] (hh N x) Q) : ∀ k x, k ≤ N → I k x → AW am_P d L M pc (ll k x) [] (hh k x) Q := by
  have g : ∀ m k x, N - k = m → k ≤ N → I k x → AW am_P d L M pc (ll k x) [] (hh k x) Q := by
    intro m
    induction m with
    | zero =>
      intro k x hm hk hi
      have e : k = N := by omega
      subst e
      exact he x hi
    | succ m ih =>
      intro k x hm hk hi
      exact hs k x (by omega) hi (fun y hy => ih (k + 1) y (by omega) (by omega) hy)
  intro k x hk hi
  exact g _ k x rfl hk hi
end AWN
