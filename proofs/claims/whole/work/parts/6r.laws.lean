/-! ===== the class's laws while they are read ===== -/
def enc (o : Nat) (y : Int32) : Int32 := y <<< (nI 3 &&& 31) ||| nI o
/-- an operator that waits, as the class has it; 0: a parenthesis -/
def opC (x : Nat) : Nat := if x = 0 then 8 else x
def wpl (f : Nat → Int32) : List Nat → Prop
  | [] => True
  | x :: r => (f r.length = nI (opC x) ∧ x < 8) ∧ wpl f r
theorem wpl_upd {f : Nat → Int32} {x : Int32} : ∀ (l : List Nat) (i : Nat), l.length ≤ i → wpl f l → wpl (upd f i x) l := by
  intro l
  induction l with
  | nil => intro _ _ _; trivial
  | cons y r ih =>
    intro i hi hp
    have hl : (y :: r).length = r.length + 1 := rfl
    refine ⟨?_, ih i (by omega) hp.2⟩
    rw [pk_un (by omega)]
    exact hp.1
/-- the steps, the operators that wait -/
def LA (T : Sd) (u : Ua) (C : List Int32) (l : List Nat) : Prop := T.1 7 = C.length ∧ C.length ≤ 400 ∧ (∀ i, i < C.length → T.2 8 i = C.getD i 0) ∧ u.1 = nI l.length ∧ l.length ≤ 32 ∧ wpl u.2.1 l
def cad (C : List Int32) (x : Int32) : List Int32 := if C.length < 400 then C ++ [x] else C
def cads (C : List Int32) (l : List Nat) : List Int32 := l.foldl (fun C o => cad C (enc o (nI 0))) C
/-- what only adding steps leaves as it was -/
def TC (T T' : Sd) : Prop := (∀ j, j ≠ 7 → T'.1 j = T.1 j) ∧ (∀ j, j ≠ 8 → T'.2 j = T.2 j)
theorem TC.rf {T : Sd} : TC T T := ⟨fun _ _ => rfl, fun _ _ => rfl⟩
theorem TC.tr {T T1 T2 : Sd} (h : TC T T1) (h1 : TC T1 T2) : TC T T2 := ⟨fun n hn => (h1.1 n hn).trans (h.1 n hn), fun n hn => (h1.2 n hn).trans (h.2 n hn)⟩
theorem cad_le {C : List Int32} {x : Int32} (h : C.length ≤ 400) : (cad C x).length ≤ 400 := by
  unfold cad
  split
  · rw [List.length_append]; show C.length + 1 ≤ 400; omega
  · exact h
theorem cad_1 {C : List Int32} {x : Int32} (h : C.length ≤ 400) : 1 ≤ (cad C x).length := by
  unfold cad
  split
  · rw [List.length_append]; show 1 ≤ C.length + 1; omega
  · omega
theorem LA.w {T : Sd} {u : Ua} {C : List Int32} {l l' : List Nat} {f : Nat → Int32} {x : Int32} (h : LA T u C l) (h1 : x = nI l'.length) (h2 : l'.length ≤ 32) (h3 : wpl f l') : LA T (x, f, u.2.2) C l' := ⟨h.1, h.2.1, h.2.2.1, h1, h2, h3⟩
def nzB (x : Nat) : Bool := x != 0
def ppB (st : Bool) (x : Nat) : Bool := x != 0 && (!st || decide (4 ≤ x))
def opush (x : Nat) (l : List Nat) : List Nat := if l.length < 32 then x :: l else l
theorem n_mx1 : ∀ n, n < 33 → (if nI 0 < nI n - nI 1 then nI n - nI 1 else nI 0) = nI (n - 1) := by decide +kernel
theorem opC_lt {x : Nat} (h : x < 8) : opC x < 9 := by unfold opC; split <;> omega
theorem opC_8 {x : Nat} (h : x < 8) : opC x = 8 ↔ x = 0 := by unfold opC; split <;> omega
section C1
variable {z : Bool} {g : am_H} {T : Sd} {u : Ua} {X : Sd × Ua} {K : Ck} {rf : Nat → Nat}
variable {C : List Int32} {l : List Nat}
theorem c_X1_add {Q : Option Value → am_H → Prop} (hL : LA T u C l) {o : Nat} {y : Int32} (q : ∀ T', LA T' u (cad C (enc o y)) l → TC T T' → Q (some (.int (nI ((cad C (enc o y)).length - 1)))) (cz z g T' u X K rf)) : AC am_P 0 0 16 [.ref (zq z + 7), .int (nI o), .int y] (cz z g T u X K rf) Q := by
  refine AC.of (ls := [_, _, _]) rfl ?_
  have hL0 := hL
  obtain ⟨h7, hC, hst, hu, hl, hw⟩ := hL
  refine aw rfl rfl ?_
  refine aw_getf rfl zs_7 rfl ?_
  refine aw rfl rfl ?_
  refine aw_getf rfl zs_7 rfl ?_
  refine aw_alen rfl zs_8 rfl ?_
  refine aw_igen rfl (fun c9 => ?_) (fun c9 => ?_)
  · refine aw rfl rfl ?_
    refine aw_getf rfl zs_7 rfl ?_
    refine aw_c (v := nI 1) rfl (by decide) ?_
    refine aw_subn rfl (by first | omega | (show 1 ≤ T.1 7 + 1; omega)) ?_
    exact aw_iret rfl rfl (by
    have e : cad C (enc o y) = C := if_neg (by omega)
    rw [e] at q
    rw [h7]
    exact q T hL0 TC.rf)
  · refine aw rfl rfl ?_
    refine aw_getf rfl zs_7 rfl ?_
    refine aw rfl rfl ?_
    refine aw_getf rfl zs_7 rfl ?_
    refine aw rfl rfl ?_
    refine aw_c (v := nI 3) rfl (by decide) ?_
    refine aw rfl rfl ?_
    refine aw rfl rfl ?_
    refine aw rfl rfl ?_
    refine aw_iastU rfl zs_8 rfl (by omega) (by decide) zq_8 zv_8 ?_
    refine aw rfl rfl ?_
    refine aw rfl rfl ?_
    refine aw_getf rfl zs_7 rfl ?_
    refine aw_c (v := nI 1) rfl (by decide) ?_
    refine aw_addn rfl ?_
    refine aw_putfU rfl zs_7 rfl rfl zq_8 zt_7_1 ?_
    refine aw rfl rfl ?_
    refine aw_getf rfl zs_7 rfl ?_
    refine aw_c (v := nI 1) rfl (by decide) ?_
    refine aw_subn rfl (by first | omega | (show 1 ≤ T.1 7 + 1; omega)) ?_
    exact aw_iret rfl rfl (by
    have e : cad C (enc o y) = C ++ [enc o y] := if_pos (by omega)
    rw [e] at q
    have e2 : (C ++ [enc o y]).length = C.length + 1 := by simp
    rw [e2] at q
    show Q (some (.int (nI (T.1 7 + 1 - 1)))) _
    rw [h7]
    refine q _ ⟨?_, by rw [e2]; omega, fun i hi => ?_, hu, hl, hw⟩ ⟨fun j hj => vu_ot hj, fun j hj => vu_ot hj⟩
    · show C.length + 1 = _; exact e2.symm
    · show upd (T.2 8) C.length _ i = _
      rw [e2] at hi
      by_cases ei : i = C.length
      · subst ei
        rw [upd_at]
        simp [List.getD, enc]
      · rw [upd_ne ei, hst i (by omega)]
        simp [List.getD, List.getElem?_append_left (show i < C.length by omega)])
theorem c_X1_push {Q : Option Value → am_H → Prop} (hL : LA T u C l) {x w : Nat} (hx : x < 8) (hw9 : opC x = w) (q : ∀ u', LA T u' C (opush x l) → Q none (cz z g T u' X K rf)) : AC am_P 0 0 15 [.ref (zq z + 7), .int (nI w)] (cz z g T u X K rf) Q := by
  refine AC.of (ls := [_, _]) rfl ?_
  have hL0 := hL
  obtain ⟨h7, hC, hst, hu, hl, hw⟩ := hL
  refine aw rfl rfl ?_
  refine aw_getfE rfl zs_7 rfl (congrArg Value.int hu) ?_
  refine aw_c (v := nI 32) rfl (by decide) ?_
  refine aw_igen rfl (fun c6 => ?_) (fun c6 => ?_)
  · exact aw_vret rfl rfl (q u (by unfold opush; rw [if_neg (by omega)]; exact hL0))
  · refine aw rfl rfl ?_
    refine aw_getf rfl zs_7 rfl ?_
    refine aw rfl rfl ?_
    refine aw_getfE rfl zs_7 rfl (congrArg Value.int hu) ?_
    refine aw rfl rfl ?_
    refine aw_iastU rfl zs_10 rfl (by omega) (by decide) zq_8 zv_10 ?_
    refine aw rfl rfl ?_
    refine aw rfl rfl ?_
    refine aw_getfE rfl zs_7 rfl (congrArg Value.int hu) ?_
    refine aw_c (v := nI 1) rfl (by decide) ?_
    refine aw_addn rfl ?_
    refine aw_putfU rfl zs_7 rfl rfl zq_8 zt_7_5 ?_
    exact aw_vret rfl rfl (q _ (by
    unfold opush
    rw [if_pos (by omega)]
    have e2 : (x :: l).length = l.length + 1 := rfl
    refine ⟨h7, hC, hst, by rw [e2], by rw [e2]; omega, ⟨?_, hx⟩, wpl_upd _ _ (Nat.le_refl _) hw⟩
    show upd u.2.1 l.length _ l.length = _
    rw [upd_at, hw9]))
theorem c_X1_lastWaiting {Q : Option Value → am_H → Prop} (hL : LA T u C l) (q : Q (some (.int (nI (opC (l.headD 0))))) (cz z g T u X K rf)) : AC am_P 0 0 19 [.ref (zq z + 7)] (cz z g T u X K rf) Q := by
  refine AC.of (ls := [_]) rfl ?_
  obtain ⟨h7, hC, hst, hu, hl, hw⟩ := hL
  refine aw rfl rfl ?_
  refine aw_getfE rfl zs_7 rfl (congrArg Value.int hu) ?_
  refine aw_len rfl (fun c4 => ?_) (fun c4 => ?_)
  · refine aw_c (v := nI 8) rfl (by decide) ?_
    exact aw_iret rfl rfl (by
    have e : l = [] := List.eq_nil_of_length_eq_zero (by omega)
    subst e
    exact q)
  · refine aw rfl rfl ?_
    refine aw_getf rfl zs_7 rfl ?_
    refine aw rfl rfl ?_
    refine aw_getfE rfl zs_7 rfl (congrArg Value.int hu) ?_
    refine aw_c (v := nI 1) rfl (by decide) ?_
    refine aw_subn rfl (by omega) ?_
    refine aw_ialdE rfl zs_10 rfl (by omega) (by decide) (show u.2.1 (l.length - 1) = nI (opC (l.headD 0)) from by
      match l, hw, c4 with
      | [], _, c4 => exact absurd c4 (Nat.lt_irrefl 0)
      | x :: r, hw, _ => exact hw.1.1) ?_
    refine aw rfl rfl ?_
    exact aw_iret rfl rfl q
theorem l_close {Q : Option Value → am_H → Prop} : ∀ (l : List Nat) (i : Nat) (T : Sd) (u : Ua) (C : List Int32) (_ : LA T u C l) (_ : i + l.length ≤ 32) (_ : ∀ T' u', LA T' u' (cads C (l.takeWhile nzB)) (l.dropWhile nzB).tail → TC T T' → Q none (cz z g T' u' X K rf)), AW am_P 1 22 18 2 [some (.ref (zq z + 7)), some (.int (nI i))] [] (cz z g T u X K rf) Q := by
  have hend : ∀ (l : List Nat) (i : Nat) (T : Sd) (u : Ua) (C : List Int32) (_ : LA T u C l) (_ : ∀ T' u', LA T' u' C l.tail → TC T T' → Q none (cz z g T' u' X K rf)), AW am_P 1 22 18 48 [some (.ref (zq z + 7)), some (.int (nI i))] [] (cz z g T u X K rf) Q := by
    intro l i T u C hL q
    obtain ⟨h7, hC, hst, hu, hl, hw⟩ := hL
    refine aw rfl rfl ?_
    refine aw_c (v := nI 0) rfl (by decide) ?_
    refine aw rfl rfl ?_
    refine aw_getfE rfl zs_7 rfl (congrArg Value.int hu) ?_
    refine aw_c (v := nI 1) rfl (by decide) ?_
    refine aw rfl rfl ?_
    refine aw rfl rfl ?_
    rw [n_mx1 l.length (by omega)]
    refine aw_putfU rfl zs_7 rfl rfl zq_8 zt_7_5 ?_
    exact aw_vret rfl rfl (q T _ ⟨h7, hC, hst, by rw [List.length_tail], by rw [List.length_tail]; omega, by
        match l, hw with
        | [], _ => trivial
        | x :: r, hw => exact hw.2⟩ TC.rf)
  intro l
  induction l with
  | nil =>
    intro i T u C hL hi q
    refine aw rfl rfl ?_
    refine aw_c (v := nI 32) rfl (by decide) ?_
    refine aw_igen rfl (fun c5 => ?_) (fun c5 => ?_)
    · exact hend [] i T u C hL q
    · refine aw rfl rfl ?_
      refine aw_cv (d1 := 0) (L1 := 0) rfl rfl zs_7 rfl rfl (by decide) (by decide) (Nat.le_of_ble_eq_true rfl) (c_X1_lastWaiting hL ?_)
      · refine aw_c (v := nI 8) rfl (by decide) ?_
        refine aw_ieq rfl (fun _ => ?_) (fun c => absurd (by decide) c)
        exact hend [] i T u C hL q
  | cons x r ih =>
    intro i T u C hL hi q
    have hlen : (x :: r).length = r.length + 1 := rfl
    rw [hlen] at hi
    have hL0 := hL
    obtain ⟨h7, hC, hst, hu, hl, hw⟩ := hL
    rw [hlen] at hu hl
    have hox : opC ((x :: r).headD 0) < 9 := opC_lt hw.1.2
    refine aw rfl rfl ?_
    refine aw_c (v := nI 32) rfl (by decide) ?_
    refine aw_igen rfl (fun c5 => by omega) (fun c5 => ?_)
    refine aw rfl rfl ?_
    refine aw_cv (d1 := 0) (L1 := 0) rfl rfl zs_7 rfl rfl (by decide) (by decide) (Nat.le_of_ble_eq_true rfl) (c_X1_lastWaiting hL0 ?_)
    refine aw_c (v := nI 8) rfl (by decide) ?_
    refine aw_ieqn rfl (fun c14 => ?_) (fun c14 => ?_)
    · have e0 : x = 0 := (opC_8 hw.1.2).mp c14
      subst e0
      exact hend (0 :: r) i T u C hL0 q
    · refine aw rfl rfl ?_
      refine aw rfl rfl ?_
      refine aw_getfE rfl zs_7 rfl (congrArg Value.int hu) ?_
      refine aw_c (v := nI 1) rfl (by decide) ?_
      refine aw_subn rfl (by omega) ?_
      refine aw_putfU rfl zs_7 rfl rfl zq_8 zt_7_5 ?_
      refine aw rfl rfl ?_
      refine aw rfl rfl ?_
      refine aw_getf rfl zs_7 rfl ?_
      refine aw rfl rfl ?_
      refine aw_getfE rfl zs_7 rfl (congrArg Value.int (show nI (r.length + 1 - 1) = nI r.length from rfl)) ?_
      refine aw_ialdE rfl zs_10 rfl (by omega) (by decide) hw.1.1 ?_
      refine aw_c (v := nI 0) rfl (by decide) ?_
      refine aw_cv (d1 := 0) (L1 := 0) rfl rfl zs_7 rfl rfl (by decide) (by decide) (Nat.le_of_ble_eq_true rfl) (c_X1_add (hL0.w (l' := r) rfl (by omega) hw.2) (fun T1 hL1 hT1 => ?_))
      refine aw rfl rfl ?_
      refine aw_incn (c := 1) (ls' := [_, _]) rfl rfl (by decide) rfl ?_
      refine aw rfl rfl ?_
      have e0 : ¬ x = 0 := fun e => c14 (by subst e; rfl)
      have e1 : nzB x = true := by unfold nzB; simp [e0]
      rw [show List.takeWhile nzB (x :: r) = x :: r.takeWhile nzB by simp [List.takeWhile, e1], show List.dropWhile nzB (x :: r) = r.dropWhile nzB by simp [List.dropWhile, e1]] at q
      have e2 : opC x = x := by unfold opC; exact if_neg e0
      rw [e2] at hL1
      exact ih (i + 1) T1 _ _ hL1 (by omega) (fun T2 u2 h2 t2 => q T2 u2 h2 (hT1.tr t2))
theorem c_X1_close {Q : Option Value → am_H → Prop} (hL : LA T u C l) (q : ∀ T' u', LA T' u' (cads C (l.takeWhile nzB)) (l.dropWhile nzB).tail → TC T T' → Q none (cz z g T' u' X K rf)) : AC am_P 1 22 18 [.ref (zq z + 7)] (cz z g T u X K rf) Q := by
  refine AC.of (ls := [_, _]) rfl ?_
  refine aw_c (v := nI 0) rfl (by decide) ?_
  refine aw_ist (ls' := [_, _]) rfl rfl ?_
  exact l_close l 0 T u C hL (by have := hL.2.2.2.2.1; omega) q
end C1
