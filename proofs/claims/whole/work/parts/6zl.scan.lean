/-! ===== tokens of a text; the class: scanWord, scanOne, scan ===== -/
/-- the class's word c is the reference's .. -/
def cwR (c : Nat) : Nat := if c < 3 then c else if c < 11 then c + 2 else if c = 11 then 3 else if c = 12 then 4 else c
theorem cwR_i : ∀ c, c < 23 → wdC (cwR c) = c ∧ cwR c < 23 := by decide
def wkC (L : List Nat) : Nat := match wiC wdsC 0 L with
  | some c => 20 + cwR c
  | none => if L.length ≤ 8 then 1 else 3
def sgC (y : Int32) : Nat := if y = nI 59 then 4 else if y = nI 61 then 5 else if y = nI 40 then 6 else if y = nI 41 then 7 else if y = nI 43 then 8 else if y = nI 45 then 9 else if y = nI 42 then 10 else if y = nI 60 then 13 else if y = nI 47 then 15 else 3
def lE (x : Nat → Int32) (n i : Nat) : Nat := if n ≤ i then i else if ltB (x i) = true then run ltB x n i else if dgB (x i) = true then run dgB x n i else i + 1
def lL (x : Nat → Int32) (n i : Nat) : List Nat := if i < n ∧ ltB (x i) = true then ltL x i (run ltB x n i - i) else []
def lK (x : Nat → Int32) (n i : Nat) : Nat := if n ≤ i then 0 else if ltB (x i) = true then wkC (lL x n i) else if dgB (x i) = true then (if run dgB x n i - i ≤ 4 then 2 else 3) else sgC (x i)
def lV (x : Nat → Int32) (n i : Nat) : Nat := if dgB (x i) = true ∧ run dgB x n i - i ≤ 4 then dv x i (run dgB x n i - i) else 0
def ps9 (x : Nat → Int32) (n : Nat) : Nat → Nat
  | 0 => run blB x n 0
  | t + 1 => run blB x n (lE x n (ps9 x n t))
/-- the tokens of the text x of n bytes -/
def tkS (x : Nat → Int32) (n : Nat) : Tk := (fun t => lK x n (ps9 x n t), fun t => ps9 x n t, fun t => lV x n (ps9 x n t), fun t => lL x n (ps9 x n t))
/-- what the class holds of the token at i -/
def TKV (x : Nat → Int32) (n i : Nat) (kd nu : Int32) : Prop := kd = nI (kdC (lK x n i)) ∧ (lK x n i = 0 ∨ lK x n i = 3 ∨ nu = nI (nuC (lK x n i) (lL x n i).length (lV x n i)))
section L1
variable {x : Nat → Int32} {n i : Nat}
theorem wkC_ok (L : List Nat) : kOK (wkC L) := by
  unfold wkC
  cases e : wiC wdsC 0 L with
  | none => show kOK (if L.length ≤ 8 then 1 else 3); unfold kOK sgK; split <;> omega
  | some c => have h := wi_lt _ _ _ _ e; have h2 := cwR_i c (by have h9 : wdsC.length = 23 := rfl; omega); show kOK (20 + cwR c); unfold kOK sgK; omega
theorem sgC_ok (y : Int32) : kOK (sgC y) := by
  unfold sgC kOK sgK
  repeat' split
  all_goals omega
theorem lK_ok : kOK (lK x n i) := by
  unfold lK
  split
  · exact Or.inl (by decide)
  · split
    · exact wkC_ok _
    · split
      · unfold kOK sgK; split <;> omega
      · exact sgC_ok _
theorem lV_9 : lV x n i ≤ 9999 := by
  unfold lV
  split
  · rename_i h
    have h9 := (dv_n (x := x) (i := i) (run dgB x n i - i) h.2 (fun j hj => (run_in (P := dgB) (n := n) (Nat.le_add_right i j) (by omega)).1)).2
    have hp : 10 ^ (run dgB x n i - i) ≤ 10 ^ 4 := Nat.pow_le_pow_right (by decide) h.2
    omega
  · exact Nat.zero_le _
theorem lE_hi (h : i ≤ n) : lE x n i ≤ n := by
  unfold lE
  split
  · exact h
  · split
    · exact run_hi h
    · split
      · exact run_hi h
      · omega
theorem ps_hi : ∀ t, ps9 x n t ≤ n := by
  intro t
  induction t with
  | zero => exact run_hi (Nat.zero_le _)
  | succ t ih => exact run_hi (lE_hi ih)
theorem wk_1 {L : List Nat} (h : wkC L = 1) : L.length ≤ 8 ∧ wiC wdsC 0 L = none := by
  unfold wkC at h
  cases e : wiC wdsC 0 L with
  | none =>
    rw [e] at h
    have h : (if L.length ≤ 8 then 1 else 3) = 1 := h
    split at h
    · exact ⟨by assumption, rfl⟩
    · omega
  | some c => rw [e] at h; have h : 20 + cwR c = 1 := h; omega
theorem lL_1 (h : lK x n i = 1) : i < n ∧ ltB (x i) = true ∧ 1 ≤ (lL x n i).length ∧ (lL x n i).length ≤ 8 ∧ lL x n i = ltL x i (run ltB x n i - i) := by
  unfold lK at h
  split at h
  · omega
  · rename_i hn
    split at h
    · rename_i hl
      have e : lL x n i = ltL x i (run ltB x n i - i) := if_pos ⟨by omega, hl⟩
      have h1 := run_s (P := ltB) (x := x) (n := n) (by omega) hl
      have h2 := run_lo (P := ltB) (x := x) (n := n) (i := i + 1)
      exact ⟨by omega, hl, by rw [e, ltL_len]; omega, (wk_1 h).1, e⟩
    · split at h
      · split at h <;> omega
      · unfold sgC at h
        (repeat' split at h) <;> omega
theorem ltL_at : ∀ m i j, j < m → (ltL x i m).getD j 0 = cN9 (x (i + j)) := by
  intro m
  induction m with
  | zero => intro i j h; omega
  | succ m ih =>
    intro i j h
    cases j with
    | zero => rfl
    | succ j => show (ltL x (i + 1) m).getD j 0 = _; rw [ih (i + 1) j (by omega)]; congr 2; omega
theorem ltL_ok : ∀ m i, (∀ j, j < m → ltB (x (i + j)) = true) → ltO (ltL x i m) := by
  intro m
  induction m with
  | zero => intro i _ c hc; simp [ltL] at hc
  | succ m ih =>
    intro i h c hc
    rcases List.mem_cons.mp hc with rfl | hc
    · exact (lt_n (h 0 (by omega))).2
    · exact ih (i + 1) (fun j hj => by have := h (j + 1) (by omega); rw [show i + 1 + j = i + (j + 1) by omega]; exact this) c hc
theorem tk_yv : YV (tkS x n) := ⟨fun _ => lK_ok, fun _ => lV_9⟩
theorem tk_r {t : Nat} {kd nu : Int32} (hn : n ≤ 2000) (h : TKV x n (ps9 x n t) kd nu) : TKR (tkS x n) t kd (nI (ps9 x n t)) nu := by
  refine ⟨rfl, Nat.le_trans (ps_hi t) hn, lK_ok, h.1, ?_, Or.inl lV_9, h.2⟩
  by_cases h1 : lK x n (ps9 x n t) = 1
  · have := lL_1 h1; exact Or.inl ⟨this.2.2.1, this.2.2.2.1⟩
  · exact Or.inr h1
end L1
theorem sg_y : ∀ j, j < 9 → ∀ c, c < 128 → (csG j = c → sgKb (sgC (nI c)) = true ∧ sgB (sgC (nI c)) = c) := by decide +kernel
theorem sg_0 : ∀ c, c < 128 → ((∀ i, i < 9 → ¬ csG i = c) → sgC (nI c) = 3) := by decide +kernel
theorem sgKb_to {k : Nat} (h : sgKb k = true) : sgK k := by unfold sgKb sgK at *; simp at h; omega
theorem sg_neg {y : Int32} (h : y ≤ 0) : sgC y = 3 := by
  unfold sgC
  rw [if_neg, if_neg, if_neg, if_neg, if_neg, if_neg, if_neg, if_neg, if_neg] <;> (intro e; subst e; exact absurd h (by decide))
section C1
variable {z : Bool} {g : am_H} {T : Sd} {u : Ua} {X : Sd × Ua} {K : Ck} {rf : Nat → Nat}
variable {n i : Nat}
theorem c_X9_scanWord {Q : Option Value → am_H → Prop} (hg : STr g) (h12 : K.1 12 = nI n) (hn : n ≤ 2000) (h13 : K.1 13 = nI i) (hi : i < n) (hl : ltB (K.2.1 9 i) = true) (q : ∀ K', K'.1 13 = nI (run ltB (K.2.1 9) n i) → TKV (K.2.1 9) n i (K'.1 14) (K'.1 15) → KX K K' → Q none (cz z g T u X K' rf)) : AC am_P 5 128 122 [.ref 42] (cz z g T u X K rf) Q := by
  refine AC.of (ls := [_, _, _]) rfl ?_
  have hhi := run_hi (P := ltB) (x := K.2.1 9) (Nat.le_of_lt hi)
  have hlo := run_lo (P := ltB) (x := K.2.1 9) (n := n) (i := i)
  have key : ∀ m j K1, n - j = m → i ≤ j → run ltB (K.2.1 9) n i = run ltB (K.2.1 9) n j → K1.1 12 = nI n → K1.1 13 = nI j → KX K K1 → j ≤ n → AW am_P 5 128 122 5 [some (.ref 42), some (.int (nI i)), none] [] (cz z g T u X K1 rf) Q := by
    have hend : ∀ j K1, run ltB (K.2.1 9) n i = j → K1.1 12 = nI n → K1.1 13 = nI j → KX K K1 → AW am_P 5 128 122 44 [some (.ref 42), some (.int (nI i)), none] [] (cz z g T u X K1 rf) Q := by
      intro j K1 her h12 h13 hK1
      have hb9 : K1.2.1 9 = K.2.1 9 := by rw [hK1.2]
      have hLe : lL (K.2.1 9) n i = ltL (K.2.1 9) i (j - i) := by unfold lL; rw [if_pos ⟨hi, hl⟩, her]
      have hlen : (lL (K.2.1 9) n i).length = j - i := by rw [hLe, ltL_len]
      have hwn : wnF (K1.2.1 9) i j n csL 0 i true = wiC wdsC 0 (lL (K.2.1 9) n i) := by
        rw [cs_fl, hb9, hLe]
        exact wn_w (fun k h1 h2 => run_in (P := ltB) (i := i) h1 (by omega)) (by omega) wdsC 0 wd_ok
      have hKe : lK (K.2.1 9) n i = wkC (lL (K.2.1 9) n i) := by unfold lK; rw [if_neg (by omega), if_pos hl]
      refine aw rfl rfl ?_
      refine aw rfl rfl ?_
      refine aw_cv (d1 := 4) (L1 := 102) rfl rfl zg_42 rfl rfl (by decide) (by decide) (Nat.le_of_ble_eq_true rfl) (c_X9_wordNumber hg h12 hn h13 (by omega) (by omega) (fun w hw9 => ?_) (fun hw9 => ?_))
      · have hwb := wi_lt wdsC 0 _ _ (hwn.symm.trans hw9)
        have h239 : wdsC.length = 23 := rfl
        refine aw_ist (ls' := [_, _, _]) rfl rfl ?_
        refine aw rfl rfl ?_
        refine aw rfl rfl ?_
        refine aw_c (v := -1) rfl (by decide) ?_
        refine aw_inem rfl ?_
        refine aw rfl rfl ?_
        refine aw_putfU rfl zg_42 rfl rfl (by decide) zp_42_7 ?_
        refine aw rfl rfl ?_
        refine aw_getfE rfl zg_42 rfl (congrArg Value.int h13) ?_
        refine aw rfl rfl ?_
        refine aw_subn rfl (by omega) ?_
        refine aw_c (v := nI 8) rfl (by decide) ?_
        refine aw_ilen rfl (fun c77 => ?_) (fun c77 => ?_)
        · refine aw rfl rfl ?_
          refine aw rfl rfl ?_
          refine aw_c (v := -1) rfl (by decide) ?_
          refine aw_inem rfl ?_
          refine aw_c (v := nI 2) rfl (by decide) ?_
          refine aw_putfU rfl zg_42 rfl rfl (by decide) zp_42_6 ?_
          have hwl := wi_lt wdsC 0 _ _ (hwn.symm.trans hw9)
          have h23 : wdsC.length = 23 := rfl
          have hcw := cwR_i w (by omega)
          have hl7 := wd_len w (by omega)
          rw [show w = w - 0 by omega, hwl.2.2, hlen] at hl7
          refine aw_vret rfl rfl (q _ ?_ ?_ (hK1.tr ((KX.up (n := 15) (by decide)).tr (KX.up (n := 14) (by decide)))))
          · show K1.1 13 = _
            rw [h13, her]
          · show TKV _ _ _ (nI 2) (nI w)
            unfold TKV
            rw [hKe]
            unfold wkC
            rw [← hwn, hw9]
            dsimp only
            refine ⟨?_, Or.inr (Or.inr ?_)⟩
            · unfold kdC; rw [if_neg (by omega), if_neg (by omega), if_neg (by omega), if_neg (by omega), if_neg (by omega)]
            · unfold nuC; rw [if_neg (by omega), if_neg (by omega), if_neg (by omega), show 20 + cwR w - 20 = cwR w by omega, hcw.1]
        · refine aw rfl rfl ?_
          refine aw_c (v := nI 5) rfl (by decide) ?_
          refine aw_putfU rfl zg_42 rfl rfl (by decide) zp_42_6 ?_
          refine aw rfl rfl ?_
          have hwl := wi_lt wdsC 0 _ _ (hwn.symm.trans hw9)
          have h23 : wdsC.length = 23 := rfl
          have hcw := cwR_i w (by omega)
          have hl7 := wd_len w (by omega)
          rw [show w = w - 0 by omega, hwl.2.2, hlen] at hl7
          omega
      · refine aw_ist (ls' := [_, _, _]) rfl rfl ?_
        refine aw rfl rfl ?_
        refine aw rfl rfl ?_
        refine aw_c (v := -1) rfl (by decide) ?_
        refine aw_ine rfl (fun c => absurd (by decide) c) (fun _ => ?_)
        refine aw rfl rfl ?_
        refine aw_getfE rfl zg_42 rfl (congrArg Value.int h13) ?_
        refine aw rfl rfl ?_
        refine aw_subn rfl (by omega) ?_
        refine aw rfl rfl ?_
        refine aw_putfU rfl zg_42 rfl rfl (by decide) zp_42_7 ?_
        refine aw rfl rfl ?_
        refine aw_getfE rfl zg_42 rfl (congrArg Value.int h13) ?_
        refine aw rfl rfl ?_
        refine aw_subn rfl (by omega) ?_
        refine aw_c (v := nI 8) rfl (by decide) ?_
        refine aw_ilen rfl (fun c77 => ?_) (fun c77 => ?_)
        · refine aw rfl rfl ?_
          refine aw rfl rfl ?_
          refine aw_c (v := -1) rfl (by decide) ?_
          refine aw_ine rfl (fun c => absurd (by decide) c) (fun _ => ?_)
          refine aw_c (v := nI 1) rfl (by decide) ?_
          refine aw rfl rfl ?_
          refine aw_putfU rfl zg_42 rfl rfl (by decide) zp_42_6 ?_
          refine aw_vret rfl rfl (q _ ?_ ?_ (hK1.tr ((KX.up (n := 15) (by decide)).tr (KX.up (n := 14) (by decide)))))
          · show K1.1 13 = _
            rw [h13, her]
          · show TKV _ _ _ (nI 1) (nI (j - i))
            unfold TKV
            rw [hKe]
            unfold wkC
            rw [← hwn, hw9]
            dsimp only
            rw [if_pos (by omega)]
            exact ⟨rfl, Or.inr (Or.inr (by unfold nuC; rw [if_pos rfl, hlen]))⟩
        · refine aw rfl rfl ?_
          refine aw_c (v := nI 5) rfl (by decide) ?_
          refine aw_putfU rfl zg_42 rfl rfl (by decide) zp_42_6 ?_
          refine aw rfl rfl ?_
          refine aw_vret rfl rfl (q _ ?_ ?_ (hK1.tr ((KX.up (n := 15) (by decide)).tr (KX.up (n := 14) (by decide)))))
          · show K1.1 13 = _
            rw [h13, her]
          · show TKV _ _ _ (nI 5) (nI (j - i))
            unfold TKV
            rw [hKe]
            unfold wkC
            rw [← hwn, hw9]
            dsimp only
            rw [if_neg (by omega)]
            exact ⟨rfl, Or.inr (Or.inl rfl)⟩
    intro m
    induction m with
    | zero =>
      intro j K1 hm hij hrj h12 h13 hK1 hj
      refine aw rfl rfl ?_
      refine aw_getfE rfl zg_42 rfl (congrArg Value.int h13) ?_
      refine aw rfl rfl ?_
      refine aw_getfE rfl zg_42 rfl (congrArg Value.int h12) ?_
      refine aw_igen rfl (fun c13 => ?_) (fun c13 => by omega)
      exact hend j K1 (by rw [hrj]; exact run_n (by omega)) h12 h13 hK1
    | succ m ih =>
      intro j K1 hm hij hrj h12 h13 hK1 hj
      have hb9 : K.2.1 9 j = K1.2.1 9 j := by rw [hK1.2]
      refine aw rfl rfl ?_
      refine aw_getfE rfl zg_42 rfl (congrArg Value.int h13) ?_
      refine aw rfl rfl ?_
      refine aw_getfE rfl zg_42 rfl (congrArg Value.int h12) ?_
      refine aw_igen rfl (fun c13 => by omega) (fun c13 => ?_)
      refine aw rfl rfl ?_
      refine aw_getf rfl zg_42 rfl ?_
      refine aw rfl rfl ?_
      refine aw_getfE rfl zg_42 rfl (congrArg Value.int h13) ?_
      refine aw_bald rfl zg_9 rfl (by omega) (by decide) ?_
      refine aw_cs (d1 := 0) (L1 := 0) rfl rfl (by decide) (by decide) (Nat.le_of_ble_eq_true rfl) (c_X9_isLetter (fun hb => ?_) (fun hb => ?_))
      · refine aw_eq rfl (fun c => absurd c (by decide)) (fun _ => ?_)
        refine aw rfl rfl ?_
        refine aw rfl rfl ?_
        refine aw_getfE rfl zg_42 rfl (congrArg Value.int h13) ?_
        refine aw_c (v := nI 1) rfl (by decide) ?_
        refine aw_addn rfl ?_
        refine aw_putfU rfl zg_42 rfl rfl (by decide) zp_42_5 ?_
        refine aw rfl rfl ?_
        exact ih (j + 1) _ (by omega) (by omega) (by rw [hrj]; exact run_s (by omega) (by rw [hb9]; exact hb)) h12 rfl (hK1.tr (KX.up (by decide))) (by omega)
      · refine aw_eq rfl (fun _ => ?_) (fun c => absurd (by decide) c)
        exact hend j K1 (by rw [hrj]; exact run_e (fun w => by rw [hb9, hb] at w; exact absurd w.2 (by decide))) h12 h13 hK1
  refine aw rfl rfl ?_
  refine aw_getfE rfl zg_42 rfl (congrArg Value.int h13) ?_
  refine aw_ist (ls' := [_, _, _]) rfl rfl ?_
  exact key _ i K rfl (Nat.le_refl _) rfl h12 h13 KX.rf (Nat.le_of_lt hi)
theorem c_X9_scanOne {Q : Option Value → am_H → Prop} (hg : STr g) (h12 : K.1 12 = nI n) (hn : n ≤ 2000) (h13 : K.1 13 = nI i) (hi : i ≤ n) (hB : ∀ j, j < n → K.2.1 9 j ≤ 127) (q : ∀ K', K'.1 13 = nI (lE (K.2.1 9) n i) → TKV (K.2.1 9) n i (K'.1 14) (K'.1 15) → KX K K' → Q none (cz z g T u X K' rf)) : AC am_P 6 150 120 [.ref 42] (cz z g T u X K rf) Q := by
  refine AC.of (ls := [_]) rfl ?_
  refine aw rfl rfl ?_
  refine aw_c (v := nI 0) rfl (by decide) ?_
  refine aw_putfU rfl zg_42 rfl rfl (by decide) zp_42_7 ?_
  refine aw rfl rfl ?_
  refine aw_getfE rfl zg_42 rfl (congrArg Value.int h13) ?_
  refine aw rfl rfl ?_
  refine aw_getfE rfl zg_42 rfl (congrArg Value.int h12) ?_
  refine aw_iltn rfl (fun c13 => ?_) (fun c13 => ?_)
  · refine aw rfl rfl ?_
    refine aw_getf rfl zg_42 rfl ?_
    refine aw rfl rfl ?_
    refine aw_getfE rfl zg_42 rfl (congrArg Value.int h13) ?_
    refine aw_bald rfl zg_9 rfl (by omega) (by decide) ?_
    refine aw_cs (d1 := 0) (L1 := 0) rfl rfl (by decide) (by decide) (Nat.le_of_ble_eq_true rfl) (c_X9_isLetter (fun hl => ?_) (fun hl => ?_))
    · refine aw_eq rfl (fun c => absurd c (by decide)) (fun _ => ?_)
      refine aw rfl rfl ?_
      refine aw_cv (d1 := 5) (L1 := 128) rfl rfl zg_42 rfl rfl (by decide) (by decide) (Nat.le_of_ble_eq_true rfl) (c_X9_scanWord hg h12 hn h13 (by omega) hl (fun K1 a1 t1 k1 => ?_))
      refine aw rfl rfl ?_
      refine aw_vret rfl rfl (q K1 ?_ t1 ((KX.up (K := K) (n := 15) (x := nI 0) (by decide)).tr k1))
      rw [a1]; unfold lE; rw [if_neg (by omega), if_pos hl]
    · refine aw_eq rfl (fun _ => ?_) (fun c => absurd (by decide) c)
      refine aw rfl rfl ?_
      refine aw_getf rfl zg_42 rfl ?_
      refine aw rfl rfl ?_
      refine aw_getfE rfl zg_42 rfl (congrArg Value.int h13) ?_
      refine aw_bald rfl zg_9 rfl (by omega) (by decide) ?_
      refine aw_cs (d1 := 0) (L1 := 0) rfl rfl (by decide) (by decide) (Nat.le_of_ble_eq_true rfl) (c_X9_isDigit (fun hd => ?_) (fun hd => ?_))
      · refine aw_eq rfl (fun c => absurd c (by decide)) (fun _ => ?_)
        refine aw rfl rfl ?_
        refine aw_cv (d1 := 1) (L1 := 20) rfl rfl zg_42 rfl rfl (by decide) (by decide) (Nat.le_of_ble_eq_true rfl) (c_X9_scanInt h12 hn h13 rfl hi (fun K1 a1 a2 a3 k1 => ?_))
        refine aw rfl rfl ?_
        refine aw_vret rfl rfl (q K1 ?_ ?_ ((KX.up (K := K) (n := 15) (x := nI 0) (by decide)).tr k1))
        · rw [a1]; unfold lE; rw [if_neg (by omega), if_neg (by rw [hl]; decide), if_pos hd]
        · unfold TKV lK lV
          rw [if_neg (by omega), if_neg (by rw [hl]; decide), if_pos hd, a2, a3]
          by_cases h4 : run dgB (K.2.1 9) n i - i ≤ 4
          · have h9 := (dv_n (x := K.2.1 9) (i := i) (run dgB (K.2.1 9) n i - i) h4 (fun j hj => (run_in (P := dgB) (n := n) (Nat.le_add_right i j) (by omega)).1)).1
            simp only [if_pos h4]
            refine ⟨rfl, Or.inr (Or.inr ?_)⟩
            rw [if_pos ⟨hd, h4⟩]; exact h9
          · simp only [if_neg h4]
            exact ⟨rfl, Or.inr (Or.inl trivial)⟩
      · refine aw_eq rfl (fun _ => ?_) (fun c => absurd (by decide) c)
        refine aw rfl rfl ?_
        refine aw rfl rfl ?_
        refine aw_getf rfl zg_42 rfl ?_
        refine aw rfl rfl ?_
        refine aw_getfE rfl zg_42 rfl (congrArg Value.int h13) ?_
        refine aw_bald rfl zg_9 rfl (by omega) (by decide) ?_
        refine aw_putfU rfl zg_42 rfl rfl (by decide) zp_42_7 ?_
        refine aw rfl rfl ?_
        refine aw rfl rfl ?_
        refine aw_getfE rfl zg_42 rfl (congrArg Value.int (show va_up (va_up K.1 15 (nI 0)) 15 (K.2.1 9 i) 15 = K.2.1 9 i from vu_at)) ?_
        refine aw_le rfl (fun c86 => ?_) (fun c86 => ?_)
        · refine aw_c (v := nI 5) rfl (by decide) ?_
          refine aw_putfU rfl zg_42 rfl rfl (by decide) zp_42_6 ?_
          refine aw rfl rfl ?_
          refine aw rfl rfl ?_
          refine aw_getfE rfl zg_42 rfl (congrArg Value.int h13) ?_
          refine aw_c (v := nI 1) rfl (by decide) ?_
          refine aw_addn rfl ?_
          refine aw_putfU rfl zg_42 rfl rfl (by decide) zp_42_5 ?_
          refine aw_vret rfl rfl (q _ ?_ ?_ ((((KX.up (K := K) (n := 15) (x := nI 0) (by decide)).tr (KX.up (n := 15) (by decide))).tr (KX.up (n := 14) (by decide))).tr (KX.up (n := 13) (by decide))))
          · show nI (i + 1) = _
            unfold lE; rw [if_neg (by omega), if_neg (by rw [hl]; decide), if_neg (by rw [hd]; decide)]
          · show TKV _ _ _ (nI 5) (K.2.1 9 i)
            have hKe : lK (K.2.1 9) n i = sgC (K.2.1 9 i) := by unfold lK; rw [if_neg (by omega), if_neg (by rw [hl]; decide), if_neg (by rw [hd]; decide)]
            unfold TKV
            rw [hKe]
            rw [sg_neg c86]; exact ⟨rfl, Or.inr (Or.inl rfl)⟩
        · obtain ⟨c, hc1, hc9⟩ := nI_of (x := K.2.1 9 i) (fun w => c86 (Int32.le_of_lt w))
          have hb127 : c ≤ 127 := by have := hB i (by omega); rw [hc9] at this; exact (nI_leI hc1 (by decide)).mp this
          refine aw rfl rfl ?_
          refine aw rfl rfl ?_
          refine aw_getfE rfl zg_42 rfl (congrArg Value.int (show va_up (va_up K.1 15 (nI 0)) 15 (K.2.1 9 i) 15 = K.2.1 9 i from vu_at)) ?_
          refine aw rfl rfl ?_
          rw [hc9, i2c_n c (by omega)]
          refine aw_cv (d1 := 3) (L1 := 70) rfl rfl (sq_3 hg).1 rfl rfl (by decide) (by decide) (Nat.le_of_ble_eq_true rfl) (c_X15_indexOf_0 (sq_3 hg) (by decide) (by omega) (fun j j1 j2 j3 => ?_) (fun j0 => ?_))
          · refine aw_ltn rfl ?_
            refine aw_c (v := nI 4) rfl (by decide) ?_
            refine aw rfl rfl ?_
            refine aw_putfU rfl zg_42 rfl rfl (by decide) zp_42_6 ?_
            refine aw rfl rfl ?_
            refine aw rfl rfl ?_
            refine aw_getfE rfl zg_42 rfl (congrArg Value.int h13) ?_
            refine aw_c (v := nI 1) rfl (by decide) ?_
            refine aw_addn rfl ?_
            refine aw_putfU rfl zg_42 rfl rfl (by decide) zp_42_5 ?_
            refine aw_vret rfl rfl (q _ ?_ ?_ ((((KX.up (K := K) (n := 15) (x := nI 0) (by decide)).tr (KX.up (n := 15) (by decide))).tr (KX.up (n := 14) (by decide))).tr (KX.up (n := 13) (by decide))))
            · show nI (i + 1) = _
              unfold lE; rw [if_neg (by omega), if_neg (by rw [hl]; decide), if_neg (by rw [hd]; decide)]
            · show TKV _ _ _ (nI 4) (nI c)
              have hKe : lK (K.2.1 9) n i = sgC (K.2.1 9 i) := by unfold lK; rw [if_neg (by omega), if_neg (by rw [hl]; decide), if_neg (by rw [hd]; decide)]
              unfold TKV
              rw [hKe]
              rw [hc9]
              have hsy := sg_y j j1 c (by omega) j2
              have hsk := sgKb_to hsy.1
              refine ⟨?_, Or.inr (Or.inr ?_)⟩
              · have h9 : kdC (sgC (nI c)) = 4 := by unfold kdC sgK at *; (repeat' split) <;> omega
                rw [h9]
              · have h9 : nuC (sgC (nI c)) (lL (K.2.1 9) n i).length (lV (K.2.1 9) n i) = sgB (sgC (nI c)) := by unfold nuC sgK at *; (repeat' split) <;> first | rfl | omega
                rw [h9, hsy.2]
          · refine aw_lt rfl (fun _ => ?_) (fun c => absurd (by decide) c)
            refine aw_c (v := nI 5) rfl (by decide) ?_
            refine aw_putfU rfl zg_42 rfl rfl (by decide) zp_42_6 ?_
            refine aw rfl rfl ?_
            refine aw rfl rfl ?_
            refine aw_getfE rfl zg_42 rfl (congrArg Value.int h13) ?_
            refine aw_c (v := nI 1) rfl (by decide) ?_
            refine aw_addn rfl ?_
            refine aw_putfU rfl zg_42 rfl rfl (by decide) zp_42_5 ?_
            refine aw_vret rfl rfl (q _ ?_ ?_ ((((KX.up (K := K) (n := 15) (x := nI 0) (by decide)).tr (KX.up (n := 15) (by decide))).tr (KX.up (n := 14) (by decide))).tr (KX.up (n := 13) (by decide))))
            · show nI (i + 1) = _
              unfold lE; rw [if_neg (by omega), if_neg (by rw [hl]; decide), if_neg (by rw [hd]; decide)]
            · show TKV _ _ _ (nI 5) (nI c)
              have hKe : lK (K.2.1 9) n i = sgC (K.2.1 9 i) := by unfold lK; rw [if_neg (by omega), if_neg (by rw [hl]; decide), if_neg (by rw [hd]; decide)]
              unfold TKV
              rw [hKe]
              rw [hc9, sg_0 c (by omega) j0]; exact ⟨rfl, Or.inr (Or.inl rfl)⟩
  · refine aw rfl rfl ?_
    refine aw_c (v := nI 0) rfl (by decide) ?_
    refine aw_putfU rfl zg_42 rfl rfl (by decide) zp_42_6 ?_
    refine aw rfl rfl ?_
    refine aw_vret rfl rfl (q _ ?_ ?_ ((KX.up (K := K) (n := 15) (x := nI 0) (by decide)).tr (KX.up (n := 14) (by decide))))
    · show K.1 13 = _
      rw [h13]; unfold lE; rw [if_pos (by omega)]
    · show TKV _ _ _ (nI 0) (nI 0)
      unfold TKV lK
      rw [if_pos (by omega)]
      exact ⟨rfl, Or.inl rfl⟩
end C1
