/-! ===== words; the class: wordNumber, scanWord ===== -/
def wdsC : List (List Nat) := [[18, 15, 23], [6, 1, 3, 5, 19], [11, 9, 3, 11], [4, 18, 9, 6, 20], [18, 21, 14, 19], [3, 1, 18, 19], [19, 20, 15, 14, 5], [6, 18, 9, 5, 14, 4], [12, 9, 22, 5, 19], [20, 1, 11, 5, 19], [19, 5, 5, 4], [2, 25], [20, 21, 18, 14], [9, 6], [20, 8, 5, 14], [5, 12, 19, 5], [1, 12, 15, 14, 7], [1, 3, 18, 15, 19, 19], [6, 1, 3, 5], [19, 15, 18, 20], [23, 8, 9, 3, 8], [8, 1, 18, 4], [19, 5, 3, 15, 14, 4]]
def csL : List Nat := [114, 111, 119, 32, 102, 97, 99, 101, 115, 32, 107, 105, 99, 107, 32, 100, 114, 105, 102, 116, 32, 114, 117, 110, 115, 32, 99, 97, 114, 115, 32, 115, 116, 111, 110, 101, 32, 102, 114, 105, 101, 110, 100, 32, 108, 105, 118, 101, 115, 32, 116, 97, 107, 101, 115, 32, 115, 101, 101, 100, 32, 98, 121, 32, 116, 117, 114, 110, 32, 105, 102, 32, 116, 104, 101, 110, 32, 101, 108, 115, 101, 32, 97, 108, 111, 110, 103, 32, 97, 99, 114, 111, 115, 115, 32, 102, 97, 99, 101, 32, 115, 111, 114, 116, 32, 119, 104, 105, 99, 104, 32, 104, 97, 114, 100, 32, 115, 101, 99, 111, 110, 100, 32]
def csW (j : Nat) : Nat := csL.getD j 0
def wnF (x : Nat → Int32) (fr e n : Nat) : List Nat → Nat → Nat → Bool → Option Nat
  | [], _, _, _ => none
  | c :: r, w, k, b => if ¬ c = 32 then wnF x fr e n r w (k + 1) (b && decide (k < e ∧ k < n ∧ x k = nI c)) else if b = true ∧ k = e then some w else wnF x fr e n r (w + 1) fr true
def ltL (x : Nat → Int32) : Nat → Nat → List Nat
  | _, 0 => []
  | i, m + 1 => cN9 (x i) :: ltL x (i + 1) m
def wiC : List (List Nat) → Nat → List Nat → Option Nat
  | [], _, _ => none
  | w :: r, c, L => if w = L then some c else wiC r (c + 1) L
def flW : List (List Nat) → List Nat
  | [] => []
  | w :: r => w.map (96 + ·) ++ 32 :: flW r
theorem cs_fl : csL = flW wdsC := by decide
section W1
variable {x : Nat → Int32} {fr e n : Nat}
theorem wn_f : ∀ (wd : List Nat) (rest : List Nat) (w k : Nat), wnF x fr e n (wd.map (96 + ·) ++ 32 :: rest) w k false = wnF x fr e n rest (w + 1) fr true := by
  intro wd
  induction wd with
  | nil => intro rest w k; show wnF x fr e n (32 :: rest) w k false = _; rw [wnF, if_neg (fun z => z rfl), if_neg (by simp)]
  | cons c wd ih => intro rest w k; show wnF x fr e n ((96 + c) :: (wd.map (96 + ·) ++ 32 :: rest)) w k false = _; rw [wnF, if_pos (by omega), Bool.false_and]; exact ih _ _ _
theorem wn_t (hL : ∀ k, fr ≤ k → k < e → ltB (x k) = true ∧ k < n) : ∀ (wd : List Nat) (rest : List Nat) (w k : Nat), fr ≤ k → k ≤ e → (∀ c ∈ wd, 1 ≤ c ∧ c ≤ 26) → wnF x fr e n (wd.map (96 + ·) ++ 32 :: rest) w k true = if wd = ltL x k (e - k) then some w else wnF x fr e n rest (w + 1) fr true := by
  intro wd
  induction wd with
  | nil =>
    intro rest w k hk hke _
    show wnF x fr e n (32 :: rest) w k true = _
    rw [wnF, if_neg (fun z => z rfl)]
    by_cases h : k = e
    · rw [if_pos ⟨rfl, h⟩, if_pos (by rw [h, Nat.sub_self]; rfl)]
    · rw [if_neg (fun z => h z.2), if_neg (by rw [show e - k = (e - k - 1) + 1 by omega, ltL]; simp)]
  | cons c wd ih =>
    intro rest w k hk hke hc
    show wnF x fr e n ((96 + c) :: (wd.map (96 + ·) ++ 32 :: rest)) w k true = _
    have hc1 := hc c (List.mem_cons_self ..)
    rw [wnF, if_pos (by omega), Bool.true_and]
    by_cases h : k < e
    · obtain ⟨l1, l2⟩ := hL k hk h
      obtain ⟨n1, n2, n3⟩ := lt_n l1
      rw [show e - k = (e - (k + 1)) + 1 by omega, ltL]
      by_cases ec : c = cN9 (x k)
      · rw [decide_eq_true ⟨h, l2, by rw [n1, ec]⟩, ih rest w (k + 1) (by omega) (by omega) (fun z hz => hc z (List.mem_cons_of_mem _ hz)), ec]
        simp
      · rw [decide_eq_false (fun z => ec (by
          have z3 := z.2.2
          rw [n1] at z3
          have := (nI_eq (by omega) (by omega)).mp z3
          omega)), wn_f, if_neg (fun z => ec (by injection z))]
    · rw [decide_eq_false (fun z => h z.1), wn_f, if_neg (by rw [show e - k = 0 by omega]; simp [ltL])]
theorem wn_w (hL : ∀ k, fr ≤ k → k < e → ltB (x k) = true ∧ k < n) (he : fr ≤ e) : ∀ (ws : List (List Nat)) (w : Nat), (∀ wd ∈ ws, ∀ c ∈ wd, 1 ≤ c ∧ c ≤ 26) → wnF x fr e n (flW ws) w fr true = wiC ws w (ltL x fr (e - fr)) := by
  intro ws
  induction ws with
  | nil => intro w _; rfl
  | cons wd ws ih =>
    intro w h
    rw [flW, wn_t hL wd (flW ws) w fr (Nat.le_refl _) he (h wd (List.mem_cons_self ..)), wiC]
    split
    · rfl
    · exact ih (w + 1) (fun z hz => h z (List.mem_cons_of_mem _ hz))
end W1
theorem wd_ok : ∀ wd ∈ wdsC, ∀ c ∈ wd, 1 ≤ c ∧ c ≤ 26 := by decide
theorem wi_lt : ∀ (ws : List (List Nat)) (w : Nat) (L : List Nat) (c : Nat), wiC ws w L = some c → w ≤ c ∧ c < w + ws.length ∧ ws.getD (c - w) [] = L := by
  intro ws
  induction ws with
  | nil => intro w L c h; cases h
  | cons wd ws ih =>
    intro w L c h
    rw [wiC] at h
    split at h
    · rename_i e
      cases h
      exact ⟨Nat.le_refl _, by rw [List.length_cons]; omega, by rw [Nat.sub_self]; exact e⟩
    · obtain ⟨a1, a2, a3⟩ := ih _ _ _ h
      refine ⟨by omega, by rw [List.length_cons]; omega, ?_⟩
      rw [show c - w = (c - (w + 1)) + 1 by omega]
      exact a3
theorem wd_len : ∀ c, c < 23 → (wdsC.getD c []).length ≤ 7 := by decide
theorem ltL_len {x : Nat → Int32} : ∀ m i, (ltL x i m).length = m := by
  intro m
  induction m with
  | zero => intro i; rfl
  | succ m ih => intro i; rw [ltL, List.length_cons, ih]
section C1
variable {z : Bool} {g : am_H} {T : Sd} {u : Ua} {X : Sd × Ua} {K : Ck} {rf : Nat → Nat}
variable {n i : Nat}
theorem sq_2 (h : STr g) : SQ (cz z g T u X K rf) 2 5 123 csW := by
  refine ⟨?_, ?_, by decide, by decide, fun j => ?_⟩
  · have h4 := h 2 (by decide) (by decide)
    cases z <;> exact h4
  · have h7 := h 5 (by decide) (by decide)
    have e0 : am_by.getD 0 [] = csL.map nI := by decide
    have e : (fun j => (am_by.getD 0 []).getD j 0) = fun j => nI (csW j) := funext fun j => by rw [e0]; exact gd_n csL j
    have h7 : g.2.2 5 = .inr (1, 123, .inl (fun j => nI (csW j))) := by rw [← e]; exact h7
    cases z <;> exact h7
  · have : ∀ i, i < 123 → csW i < 128 := by decide
    by_cases hj : j < 123
    · exact this j hj
    · unfold csW; rw [List.getD_eq_getElem?_getD, List.getElem?_eq_none (by show 123 ≤ j; omega)]; decide
theorem c_X9_wordNumber {Q : Option Value → am_H → Prop} (hg : STr g) (h12 : K.1 12 = nI n) (hn : n ≤ 2000) {e : Nat} (h13 : K.1 13 = nI e) (he : e ≤ n) (hi : i ≤ e) (q1 : ∀ w, wnF (K.2.1 9) i e n csL 0 i true = some w → Q (some (.int (nI w))) (cz z g T u X K rf)) (q0 : wnF (K.2.1 9) i e n csL 0 i true = none → Q (some (.int (-1))) (cz z g T u X K rf)) : AC am_P 4 102 123 [.ref 42, .int (nI i)] (cz z g T u X K rf) Q := by
  refine AC.of (ls := [_, _, _, _, _, _, _]) rfl ?_
  have key : ∀ (r : List Nat) (p w k : Nat) (b : Bool) (x6 : Option Value), csL.drop p = r → p + r.length = 123 → k ≤ i + p → w ≤ p → (∀ w9, wnF (K.2.1 9) i e n r w k b = some w9 → Q (some (.int (nI w9))) (cz z g T u X K rf)) → (wnF (K.2.1 9) i e n r w k b = none → Q (some (.int (-1))) (cz z g T u X K rf)) → AW am_P 4 102 123 10 [some (.ref 42), some (.int (nI i)), some (.int (nI w)), some (.int (nI k)), some (.int (bI b)), some (.int (nI p)), x6] [] (cz z g T u X K rf) Q := by
    intro r
    induction r with
    | nil =>
      intro p w k b x6 hd hp hk hw q1 q0
      have hp : p = 123 := by simpa using hp
      subst hp
      refine aw rfl rfl ?_
      refine aw rfl rfl ?_
      refine aw_cv (d1 := 1) (L1 := 20) rfl rfl (sq_2 hg).1 rfl rfl (by decide) (by decide) (Nat.le_of_ble_eq_true rfl) (c_X15_length (sq_2 hg) ?_)
      · refine aw_ige rfl (fun _ => ?_) (fun c => absurd (by decide) c)
        refine aw_c (v := -1) rfl (by decide) ?_
        exact aw_iret rfl rfl (q0 rfl)
    | cons c r ih =>
      intro p w k b x6 hd hp hk hw q1 q0
      rw [List.length_cons] at hp
      have hc : csW p = c := by
        unfold csW
        rw [List.getD_eq_getElem?_getD, ← List.head?_drop, hd]
        rfl
      have hd1 : csL.drop (p + 1) = r := by
        rw [← List.tail_drop, hd]
        rfl
      have hcl : c < 128 := by rw [← hc]; exact (sq_2 (z := z) (T := T) (u := u) (X := X) (K := K) (rf := rf) hg).2.2.2.2 p
      rw [wnF] at q1 q0
      refine aw rfl rfl ?_
      refine aw rfl rfl ?_
      refine aw_cv (d1 := 1) (L1 := 20) rfl rfl (sq_2 hg).1 rfl rfl (by decide) (by decide) (Nat.le_of_ble_eq_true rfl) (c_X15_length (sq_2 hg) ?_)
      · refine aw_igen rfl (fun c17 => by omega) (fun c17 => ?_)
        refine aw rfl rfl ?_
        refine aw rfl rfl ?_
        refine aw_cv (d1 := 3) (L1 := 81) rfl rfl (sq_2 hg).1 rfl rfl (by decide) (by decide) (Nat.le_of_ble_eq_true rfl) (c_X15_charAt (sq_2 hg) (by omega) ?_)
        rw [hc]
        refine aw_ist (ls' := [_, _, _, _, _, _, _]) rfl rfl ?_
        refine aw rfl rfl ?_
        refine aw_c (v := nI 32) rfl (by decide) ?_
        refine aw_ieqn rfl (fun c33 => ?_) (fun c33 => ?_)
        · refine aw rfl rfl ?_
          refine aw_eq rfl (fun c83 => ?_) (fun c83 => ?_)
          · refine aw_incn (c := 1) (ls' := [_, _, _, _, _, _, _]) rfl rfl (by decide) rfl ?_
            refine aw rfl rfl ?_
            refine aw_ist (ls' := [_, _, _, _, _, _, _]) rfl rfl ?_
            refine aw_c (v := nI 1) rfl (by decide) ?_
            refine aw_ist (ls' := [_, _, _, _, _, _, _]) rfl rfl ?_
            refine aw_incn (c := 1) (ls' := [_, _, _, _, _, _, _]) rfl rfl (by decide) rfl ?_
            refine aw rfl rfl ?_
            rw [if_neg (fun w9 => w9 c33), if_neg (fun w9 => by have w9 := w9.1; subst w9; exact absurd c83 (by decide))] at q1 q0
            exact ih (p + 1) (w + 1) i true _ hd1 (by omega) (by omega) (by omega) q1 q0
          · refine aw rfl rfl ?_
            refine aw rfl rfl ?_
            refine aw_getfE rfl zg_42 rfl (congrArg Value.int h13) ?_
            refine aw_inen rfl (fun c91 => ?_) (fun c91 => ?_)
            · refine aw_incn (c := 1) (ls' := [_, _, _, _, _, _, _]) rfl rfl (by decide) rfl ?_
              refine aw rfl rfl ?_
              refine aw_ist (ls' := [_, _, _, _, _, _, _]) rfl rfl ?_
              refine aw_c (v := nI 1) rfl (by decide) ?_
              refine aw_ist (ls' := [_, _, _, _, _, _, _]) rfl rfl ?_
              refine aw_incn (c := 1) (ls' := [_, _, _, _, _, _, _]) rfl rfl (by decide) rfl ?_
              refine aw rfl rfl ?_
              have hbt : b = true := by cases b with | true => rfl | false => exact absurd rfl c83
              rw [if_neg (fun w9 => w9 c33), if_neg (fun w9 => c91 w9.2)] at q1 q0
              exact ih (p + 1) (w + 1) i true _ hd1 (by omega) (by omega) (by omega) q1 q0
            · refine aw rfl rfl ?_
              exact aw_iret rfl rfl (q1 w (by rw [if_neg (fun w9 => w9 c33), if_pos ⟨by cases b with | true => rfl | false => exact absurd rfl c83, c91⟩]))
        · refine aw rfl rfl ?_
          refine aw_eq rfl (fun c38 => ?_) (fun c38 => ?_)
          · refine aw_c (v := nI 0) rfl (by decide) ?_
            refine aw_ist (ls' := [_, _, _, _, _, _, _]) rfl rfl ?_
            refine aw_incn (c := 1) (ls' := [_, _, _, _, _, _, _]) rfl rfl (by decide) rfl ?_
            refine aw rfl rfl ?_
            refine aw_incn (c := 1) (ls' := [_, _, _, _, _, _, _]) rfl rfl (by decide) rfl ?_
            refine aw rfl rfl ?_
            have eb : (b && decide (k < e ∧ k < n ∧ K.2.1 9 k = nI c)) = false := by cases b with | false => rfl | true => exact absurd c38 (by decide)
            rw [if_pos c33, eb] at q1 q0
            exact ih (p + 1) w (k + 1) false _ hd1 (by omega) (by omega) (by omega) q1 q0
          · refine aw rfl rfl ?_
            refine aw rfl rfl ?_
            refine aw_getfE rfl zg_42 rfl (congrArg Value.int h13) ?_
            refine aw_igen rfl (fun c46 => ?_) (fun c46 => ?_)
            · refine aw_c (v := nI 0) rfl (by decide) ?_
              refine aw_ist (ls' := [_, _, _, _, _, _, _]) rfl rfl ?_
              refine aw_incn (c := 1) (ls' := [_, _, _, _, _, _, _]) rfl rfl (by decide) rfl ?_
              refine aw rfl rfl ?_
              refine aw_incn (c := 1) (ls' := [_, _, _, _, _, _, _]) rfl rfl (by decide) rfl ?_
              refine aw rfl rfl ?_
              have eb : (b && decide (k < e ∧ k < n ∧ K.2.1 9 k = nI c)) = false := by rw [decide_eq_false (fun w9 => by omega), Bool.and_false]
              rw [if_pos c33, eb] at q1 q0
              exact ih (p + 1) w (k + 1) false _ hd1 (by omega) (by omega) (by omega) q1 q0
            · refine aw rfl rfl ?_
              refine aw rfl rfl ?_
              refine aw_getfE rfl zg_42 rfl (congrArg Value.int h12) ?_
              refine aw_igen rfl (fun c54 => ?_) (fun c54 => ?_)
              · refine aw_c (v := nI 0) rfl (by decide) ?_
                refine aw_ist (ls' := [_, _, _, _, _, _, _]) rfl rfl ?_
                refine aw_incn (c := 1) (ls' := [_, _, _, _, _, _, _]) rfl rfl (by decide) rfl ?_
                refine aw rfl rfl ?_
                refine aw_incn (c := 1) (ls' := [_, _, _, _, _, _, _]) rfl rfl (by decide) rfl ?_
                refine aw rfl rfl ?_
                have eb : (b && decide (k < e ∧ k < n ∧ K.2.1 9 k = nI c)) = false := by rw [decide_eq_false (fun w9 => by omega), Bool.and_false]
                rw [if_pos c33, eb] at q1 q0
                exact ih (p + 1) w (k + 1) false _ hd1 (by omega) (by omega) (by omega) q1 q0
              · refine aw rfl rfl ?_
                refine aw_getf rfl zg_42 rfl ?_
                refine aw rfl rfl ?_
                refine aw_bald rfl zg_9 rfl (by omega) (by decide) ?_
                refine aw rfl rfl ?_
                refine aw_ine rfl (fun c65 => ?_) (fun c65 => ?_)
                · refine aw_c (v := nI 0) rfl (by decide) ?_
                  refine aw_ist (ls' := [_, _, _, _, _, _, _]) rfl rfl ?_
                  refine aw_incn (c := 1) (ls' := [_, _, _, _, _, _, _]) rfl rfl (by decide) rfl ?_
                  refine aw rfl rfl ?_
                  refine aw_incn (c := 1) (ls' := [_, _, _, _, _, _, _]) rfl rfl (by decide) rfl ?_
                  refine aw rfl rfl ?_
                  have eb : (b && decide (k < e ∧ k < n ∧ K.2.1 9 k = nI c)) = false := by rw [decide_eq_false (fun w9 => c65 w9.2.2), Bool.and_false]
                  rw [if_pos c33, eb] at q1 q0
                  exact ih (p + 1) w (k + 1) false _ hd1 (by omega) (by omega) (by omega) q1 q0
                · refine aw_c (v := nI 1) rfl (by decide) ?_
                  refine aw rfl rfl ?_
                  refine aw_ist (ls' := [_, _, _, _, _, _, _]) rfl rfl ?_
                  refine aw_incn (c := 1) (ls' := [_, _, _, _, _, _, _]) rfl rfl (by decide) rfl ?_
                  refine aw rfl rfl ?_
                  refine aw_incn (c := 1) (ls' := [_, _, _, _, _, _, _]) rfl rfl (by decide) rfl ?_
                  refine aw rfl rfl ?_
                  have eb : (b && decide (k < e ∧ k < n ∧ K.2.1 9 k = nI c)) = true := by rw [decide_eq_true ⟨by omega, by omega, c65⟩, Bool.and_true]; cases b with | true => rfl | false => exact absurd rfl c38
                  rw [if_pos c33, eb] at q1 q0
                  exact ih (p + 1) w (k + 1) true _ hd1 (by omega) (by omega) (by omega) q1 q0
  refine aw_c (v := nI 0) rfl (by decide) ?_
  refine aw_ist (ls' := [_, _, _, _, _, _, _]) rfl rfl ?_
  refine aw rfl rfl ?_
  refine aw_ist (ls' := [_, _, _, _, _, _, _]) rfl rfl ?_
  refine aw_c (v := nI 1) rfl (by decide) ?_
  refine aw_ist (ls' := [_, _, _, _, _, _, _]) rfl rfl ?_
  refine aw_c (v := nI 0) rfl (by decide) ?_
  refine aw_ist (ls' := [_, _, _, _, _, _, _]) rfl rfl ?_
  exact key csL 0 0 i true none rfl rfl (by omega) (Nat.le_refl _) q1 q0
end C1
