/-! ===== tokens; the state of a reader; the class's reader: take, fail, isWord .. ===== -/
/-- tokens, by their number: kind (0 end, 1 name, 2 int, 3 none, 4 to 15 signs, 20 + k the word k), place, what an int tells, a name's letters -/
abbrev Tk : Type := (Nat → Nat) × (Nat → Nat) × (Nat → Nat) × (Nat → List Nat)
/-- a reader: the token's number; fault (0: none), its place; the first of the later faults, its place -/
abbrev Ps : Type := Nat × (Nat × Nat) × (Nat × Nat)
def sgB (k : Nat) : Nat := if k = 4 then 59 else if k = 5 then 61 else if k = 6 then 40 else if k = 7 then 41 else if k = 8 then 43 else if k = 9 then 45 else if k = 10 then 42 else if k = 13 then 60 else 47
def wdC (k : Nat) : Nat := if k < 3 then k else if k = 3 then 11 else if k = 4 then 12 else if k < 13 then k - 2 else k
def sgK (k : Nat) : Prop := (4 ≤ k ∧ k ≤ 10) ∨ k = 13 ∨ k = 15
def kdC (k : Nat) : Nat := if k = 0 then 0 else if k = 1 then 1 else if k = 2 then 3 else if k = 3 then 5 else if k < 20 then 4 else 2
def nuC (k l v : Nat) : Nat := if k = 1 then l else if k = 2 then v else if k < 20 then sgB k else wdC (k - 20)
def kOK (k : Nat) : Prop := k ≤ 3 ∨ sgK k ∨ (20 ≤ k ∧ k ≤ 42)
/-- the class holds the token i so -/
def TKR (Y : Tk) (i : Nat) (kd pl nu : Int32) : Prop := pl = nI (Y.2.1 i) ∧ Y.2.1 i ≤ 2000 ∧ kOK (Y.1 i) ∧ kd = nI (kdC (Y.1 i)) ∧ (1 ≤ (Y.2.2.2 i).length ∧ (Y.2.2.2 i).length ≤ 8 ∨ ¬ Y.1 i = 1) ∧ (Y.2.2.1 i ≤ 9999 ∨ ¬ Y.1 i = 2) ∧ (Y.1 i = 0 ∨ Y.1 i = 3 ∨ nu = nI (nuC (Y.1 i) (Y.2.2.2 i).length (Y.2.2.1 i)))
theorem wdC_in : ∀ k, k < 23 → ∀ j, j < 23 → wdC k = wdC j → k = j := by decide
theorem wdC_lt : ∀ k, k < 23 → wdC k < 23 := by decide
def sgKb (k : Nat) : Bool := (decide (4 ≤ k) && decide (k ≤ 10)) || decide (k = 13) || decide (k = 15)
theorem sgKb_of {k : Nat} (h : sgK k) : sgKb k = true := by unfold sgKb sgK at *; simp; omega
theorem sgB_in0 : ∀ k, k < 16 → ∀ j, j < 16 → (sgB k != sgB j || !sgKb k || !sgKb j || k == j) = true := by decide
theorem sgB_in {k j : Nat} (hk : sgK k) (hj : sgK j) (h : sgB k = sgB j) : k = j := by
  have h1 : k < 16 := by unfold sgK at hk; omega
  have h2 : j < 16 := by unfold sgK at hj; omega
  have h3 := sgB_in0 k h1 j h2
  rw [sgKb_of hk, sgKb_of hj, h] at h3
  simpa using h3
theorem sgB_lt {k : Nat} : sgB k < 62 := by unfold sgB; repeat' split
                                            all_goals decide
theorem kdC_lt {k : Nat} : kdC k < 6 := by unfold kdC; repeat' split
                                           all_goals decide
theorem kd_is {k j : Nat} (hj : j < 6) : (nI (kdC k) = nI j) ↔ kdC k = j := nI_eq (by have := @kdC_lt k; omega) (by omega)
theorem tk_int {Y : Tk} {i : Nat} {kd pl nu : Int32} (h : TKR Y i kd pl nu) : kd = nI 3 ↔ Y.1 i = 2 := by
  obtain ⟨_, _, h3, h4, _⟩ := h
  rw [h4, kd_is (by decide)]
  unfold kdC kOK sgK at *
  split <;> (try omega)
  split <;> (try omega)
  split <;> (try omega)
  split <;> (try omega)
  split <;> omega
theorem tk_name {Y : Tk} {i : Nat} {kd pl nu : Int32} (h : TKR Y i kd pl nu) : kd = nI 1 ↔ Y.1 i = 1 := by
  obtain ⟨_, _, h3, h4, _⟩ := h
  rw [h4, kd_is (by decide)]
  unfold kdC kOK sgK at *
  split <;> (try omega)
  split <;> (try omega)
  split <;> (try omega)
  split <;> (try omega)
  split <;> omega
theorem tk_end {Y : Tk} {i : Nat} {kd pl nu : Int32} (h : TKR Y i kd pl nu) : kd = nI 0 ↔ Y.1 i = 0 := by
  obtain ⟨_, _, h3, h4, _⟩ := h
  rw [h4, kd_is (by decide)]
  unfold kdC kOK sgK at *
  split <;> (try omega)
  split <;> (try omega)
  split <;> (try omega)
  split <;> (try omega)
  split <;> omega
theorem tk_wd {Y : Tk} {i : Nat} {kd pl nu : Int32} (h : TKR Y i kd pl nu) : kd = nI 2 ↔ 20 ≤ Y.1 i := by
  obtain ⟨_, _, h3, h4, _⟩ := h
  rw [h4, kd_is (by decide)]
  unfold kdC kOK sgK at *
  split <;> (try omega)
  split <;> (try omega)
  split <;> (try omega)
  split <;> (try omega)
  split <;> omega
theorem tk_sg {Y : Tk} {i : Nat} {kd pl nu : Int32} (h : TKR Y i kd pl nu) : kd = nI 4 ↔ sgK (Y.1 i) := by
  obtain ⟨_, _, h3, h4, _⟩ := h
  rw [h4, kd_is (by decide)]
  unfold kdC kOK sgK at *
  split <;> (try omega)
  split <;> (try omega)
  split <;> (try omega)
  split <;> (try omega)
  split <;> omega
theorem tk_num {Y : Tk} {i : Nat} {kd pl nu : Int32} (h : TKR Y i kd pl nu) (h1 : 20 ≤ Y.1 i) : nu = nI (wdC (Y.1 i - 20)) := by
  obtain ⟨_, _, h3, h4, _, _, h7⟩ := h
  rcases h7 with h7 | h7 | h7
  · omega
  · omega
  · rw [h7]; unfold nuC; rw [if_neg (by omega), if_neg (by omega), if_neg (by omega)]
theorem tk_snum {Y : Tk} {i : Nat} {kd pl nu : Int32} (h : TKR Y i kd pl nu) (h1 : sgK (Y.1 i)) : nu = nI (sgB (Y.1 i)) := by
  obtain ⟨_, _, h3, h4, _, _, h7⟩ := h
  have h2 : 4 ≤ Y.1 i ∧ Y.1 i < 20 := by unfold sgK at h1; omega
  rcases h7 with h7 | h7 | h7
  · omega
  · omega
  · rw [h7]; unfold nuC; rw [if_neg (by omega), if_neg (by omega), if_pos (by omega)]
theorem tk_inum {Y : Tk} {i : Nat} {kd pl nu : Int32} (h : TKR Y i kd pl nu) (h1 : Y.1 i = 2) : nu = nI (Y.2.2.1 i) ∧ Y.2.2.1 i ≤ 9999 := by
  obtain ⟨_, _, h3, h4, _, h6, h7⟩ := h
  refine ⟨?_, by omega⟩
  rcases h7 with h7 | h7 | h7
  · omega
  · omega
  · rw [h7]; unfold nuC; rw [if_neg (by omega), if_pos h1]
theorem tk_len {Y : Tk} {i : Nat} {kd pl nu : Int32} (h : TKR Y i kd pl nu) (h1 : Y.1 i = 1) : nu = nI (Y.2.2.2 i).length ∧ 1 ≤ (Y.2.2.2 i).length ∧ (Y.2.2.2 i).length ≤ 8 := by
  obtain ⟨_, _, h3, h4, h5, h6, h7⟩ := h
  refine ⟨?_, by omega, by omega⟩
  rcases h7 with h7 | h7 | h7
  · omega
  · omega
  · rw [h7]; unfold nuC; rw [if_pos h1]
theorem tk_word {Y : Tk} {i k w : Nat} {kd pl nu : Int32} (h : TKR Y i kd pl nu) (hk : k < 23) (hw : wdC k = w) : (kd = nI 2 ∧ nu = nI w) ↔ Y.1 i = 20 + k := by
  subst hw
  have h3 : kOK (Y.1 i) := h.2.2.1
  constructor
  · rintro ⟨h1, h2⟩
    have h1 := (tk_wd h).mp h1
    have h4 : Y.1 i ≤ 42 := by unfold kOK sgK at h3; omega
    rw [tk_num h h1] at h2
    have h5 := wdC_in (Y.1 i - 20) (by omega) k hk ((nI_eq (by have := wdC_lt (Y.1 i - 20) (by omega); omega) (by have := wdC_lt k hk; omega)).mp h2)
    omega
  · intro h1
    refine ⟨(tk_wd h).mpr (by omega), ?_⟩
    rw [tk_num h (by omega), show Y.1 i - 20 = k by omega]
theorem tk_sign {Y : Tk} {i k w : Nat} {kd pl nu : Int32} (h : TKR Y i kd pl nu) (hk : sgK k) (hw : sgB k = w) : (kd = nI 4 ∧ nu = nI w) ↔ Y.1 i = k := by
  subst hw
  constructor
  · rintro ⟨h1, h2⟩
    have h1 := (tk_sg h).mp h1
    rw [tk_snum h h1] at h2
    exact sgB_in h1 hk ((nI_eq (by have := @sgB_lt (Y.1 i); omega) (by have := @sgB_lt k; omega)).mp h2)
  · intro h1
    rw [← h1] at hk
    refine ⟨(tk_sg h).mpr hk, ?_⟩
    rw [tk_snum h hk, h1]
def go (Y : Tk) (s : Ps) : Ps := if s.2.1.1 = 0 then (if s.1 = 400 then (s.1, (2, Y.2.1 s.1), s.2.2) else (s.1 + 1, s.2)) else s
def fl (Y : Tk) (c : Nat) (s : Ps) : Ps := if s.2.1.1 = 0 then (s.1, (c, Y.2.1 s.1), s.2.2) else s
def wr (c p : Nat) (s : Ps) : Ps := if s.2.1.1 = 0 ∧ (s.2.2.1 = 0 ∨ p < s.2.2.2 ∨ (p = s.2.2.2 ∧ c < s.2.2.1)) then (s.1, s.2.1, (c, p)) else s
def mu (Y : Tk) (k : Nat) (s : Ps) : Ps := if s.2.1.1 = 0 ∧ ¬ Y.1 s.1 = k then fl Y 1 s else go Y s
def iV (Y : Tk) (lo : Nat) (s : Ps) : Nat := if Y.1 s.1 = 2 then Y.2.2.1 s.1 else lo
def iS (Y : Tk) (lo hi : Nat) (s : Ps) : Ps := if s.2.1.1 = 0 ∧ ¬ Y.1 s.1 = 2 then fl Y 1 s else go Y (if Y.2.2.1 s.1 < lo ∨ hi < Y.2.2.1 s.1 then wr 5 (Y.2.1 s.1) s else s)
theorem go_f {Y : Tk} {s : Ps} (h : ¬ s.2.1.1 = 0) : go Y s = s := if_neg h
theorem fl_f {Y : Tk} {c : Nat} {s : Ps} (h : ¬ s.2.1.1 = 0) : fl Y c s = s := if_neg h
theorem wr_f {c p : Nat} {s : Ps} (h : ¬ s.2.1.1 = 0) : wr c p s = s := if_neg (fun z => h z.1)
theorem mu_f {Y : Tk} {k : Nat} {s : Ps} (h : ¬ s.2.1.1 = 0) : mu Y k s = s := by unfold mu; rw [if_neg (fun z => h z.1), go_f h]
theorem iS_f {Y : Tk} {lo hi : Nat} {s : Ps} (h : ¬ s.2.1.1 = 0) : iS Y lo hi s = s := by
  unfold iS
  rw [if_neg (fun z => h z.1), wr_f h]
  split <;> exact go_f h
theorem go_0 {Y : Tk} {s : Ps} (h : (go Y s).2.1.1 = 0) : s.2.1.1 = 0 := Decidable.of_not_not (fun z => by rw [go_f z] at h; exact z h)
theorem go_1 {Y : Tk} {s : Ps} (h : (go Y s).2.1.1 = 0) : s.2.1.1 = 0 ∧ ¬ s.1 = 400 ∧ go Y s = (s.1 + 1, s.2) := by
  have h0 := go_0 h
  have h1 : ¬ s.1 = 400 := fun z => by unfold go at h; rw [if_pos h0, if_pos z] at h; exact absurd h (by show ¬ 2 = 0; decide)
  refine ⟨h0, h1, ?_⟩
  unfold go
  rw [if_pos h0, if_neg h1]
theorem fl_0 {Y : Tk} {c : Nat} {s : Ps} (hc : 1 ≤ c) : ¬ (fl Y c s).2.1.1 = 0 := by
  unfold fl
  split
  · show ¬ c = 0; omega
  · assumption
theorem wr_0 {c p : Nat} {s : Ps} : (wr c p s).2.1 = s.2.1 ∧ (wr c p s).1 = s.1 := by unfold wr; split <;> exact ⟨rfl, rfl⟩
theorem mu_1 {Y : Tk} {k : Nat} {s : Ps} (h : (mu Y k s).2.1.1 = 0) : s.2.1.1 = 0 ∧ Y.1 s.1 = k ∧ ¬ s.1 = 400 ∧ mu Y k s = (s.1 + 1, s.2) := by
  unfold mu at h ⊢
  split at h
  · exact absurd h (fl_0 (by decide))
  · rename_i hn
    obtain ⟨h1, h2, h3⟩ := go_1 h
    rw [if_neg hn]
    exact ⟨h1, Decidable.of_not_not (fun z => hn ⟨h1, z⟩), h2, h3⟩
theorem iS_1 {Y : Tk} {lo hi : Nat} {s : Ps} (h : (iS Y lo hi s).2.1.1 = 0) : s.2.1.1 = 0 ∧ Y.1 s.1 = 2 ∧ ¬ s.1 = 400 ∧ (iS Y lo hi s).1 = s.1 + 1 ∧ (iS Y lo hi s).2 = (if Y.2.2.1 s.1 < lo ∨ hi < Y.2.2.1 s.1 then wr 5 (Y.2.1 s.1) s else s).2 := by
  unfold iS at h ⊢
  split at h
  · exact absurd h (fl_0 (by decide))
  · rename_i hn
    obtain ⟨h1, h2, h3⟩ := go_1 h
    rw [if_neg hn]
    have e1 : (if Y.2.2.1 s.1 < lo ∨ hi < Y.2.2.1 s.1 then wr 5 (Y.2.1 s.1) s else s).1 = s.1 := by split <;> first | exact wr_0.2 | rfl
    have e2 : (if Y.2.2.1 s.1 < lo ∨ hi < Y.2.2.1 s.1 then wr 5 (Y.2.1 s.1) s else s).2.1 = s.2.1 := by split <;> first | exact wr_0.1 | rfl
    rw [e2] at h1
    rw [e1] at h2
    rw [h3]
    exact ⟨h1, Decidable.of_not_not (fun z => hn ⟨h1, z⟩), h2, by rw [e1], rfl⟩
/-- what the class's reader holds -/
def RS (Y : Tk) (K : Ck) (s : Ps) : Prop := (∀ i, i ≤ 400 → TKR Y i (K.2.1 43 i) (K.2.1 44 i) (K.2.1 45 i)) ∧ s.1 ≤ 400 ∧ s.2.1.1 < 8 ∧ K.1 8 = nI s.2.1.1 ∧ (s.2.1.1 = 0 → K.1 2 = nI s.1 ∧ TKR Y s.1 (K.1 3) (K.1 4) (K.1 5) ∧ s.2.2.1 < 8 ∧ K.1 10 = nI s.2.2.1 ∧ (¬ s.2.2.1 = 0 → K.1 11 = nI s.2.2.2 ∧ s.2.2.2 ≤ 2000) ∧ K.1 9 = -1) ∧ (¬ s.2.1.1 = 0 → K.1 9 = nI s.2.1.2 ∧ s.2.1.2 ≤ 2000)
/-- what a step of it leaves as it was -/
def KQ (K K' : Ck) : Prop := (∀ n, n < 2 ∨ n = 6 ∨ 11 < n → K'.1 n = K.1 n) ∧ K'.2 = K.2
theorem KQ.rf {K : Ck} : KQ K K := ⟨fun _ _ => rfl, rfl⟩
theorem KQ.tr {K K1 K2 : Ck} (h : KQ K K1) (h1 : KQ K1 K2) : KQ K K2 := ⟨fun n hn => (h1.1 n hn).trans (h.1 n hn), h1.2.trans h.2⟩
theorem KQ.up {K : Ck} {n : Nat} {x : Int32} (hn : 2 ≤ n ∧ n ≤ 11 ∧ ¬ n = 6) : KQ K (va_up K.1 n x, K.2) := ⟨fun j hj => vu_ot (by omega), rfl⟩
theorem RS.flt {Y : Tk} {K K' : Ck} {s : Ps} (h : RS Y K s) (hf : ¬ s.2.1.1 = 0) (h8 : K'.1 8 = K.1 8) (h9 : K'.1 9 = K.1 9) (hk : K'.2.1 = K.2.1) : RS Y K' s := by
  obtain ⟨h1, h2, h3, h4, h5, h6⟩ := h
  refine ⟨by rw [hk]; exact h1, h2, h3, by rw [h8]; exact h4, fun z => absurd z hf, fun z => by rw [h9]; exact h6 z⟩
section C1
variable {z : Bool} {g : am_H} {T : Sd} {u : Ua} {X : Sd × Ua} {K : Ck} {rf : Nat → Nat}
variable {Y : Tk} {s : Ps}
theorem c_X4_take {Q : Option Value → am_H → Prop} (hR : RS Y K s) (q : ∀ K', RS Y K' (go Y s) → KQ K K' → Q none (cz z g T u X K' rf)) : AC am_P 0 0 44 [.ref 40] (cz z g T u X K rf) Q := by
  refine AC.of (ls := [_]) rfl ?_
  have hR0 := hR
  obtain ⟨hA, ht, hf8, h8, hok, hfl⟩ := hR
  refine aw rfl rfl ?_
  refine aw_getfE rfl zg_40 rfl (congrArg Value.int h8) ?_
  refine aw_nen rfl (fun c4 => ?_) (fun c4 => ?_)
  · exact aw_vret rfl rfl (q _ (by rw [go_f c4]; exact hR0) KQ.rf)
  · have hs0 : s.2.1.1 = 0 := c4
    obtain ⟨h2, htk, hl8, h10, h11⟩ := hok hs0
    refine aw rfl rfl ?_
    refine aw rfl rfl ?_
    refine aw_getfE rfl zg_40 rfl (congrArg Value.int h2) ?_
    refine aw_c (v := nI 1) rfl (by decide) ?_
    refine aw_addn rfl ?_
    refine aw_putfU rfl zg_40 rfl rfl (by decide) zp_40_2 ?_
    refine aw rfl rfl ?_
    refine aw_getfE rfl zg_40 rfl (congrArg Value.int (show va_up K.1 2 _ 2 = _ from vu_at)) ?_
    refine aw_c (v := nI 400) rfl (by decide) ?_
    refine aw_igtn rfl (fun c24 => ?_) (fun c24 => ?_)
    · refine aw rfl rfl ?_
      refine aw_c (v := nI 2) rfl (by decide) ?_
      refine aw_putfU rfl zg_40 rfl rfl (by decide) zp_40_8 ?_
      refine aw rfl rfl ?_
      refine aw rfl rfl ?_
      refine aw_getf rfl zg_40 rfl ?_
      refine aw_putfU rfl zg_40 rfl rfl (by decide) zp_40_9 ?_
      refine aw rfl rfl ?_
      exact aw_vret rfl rfl (q _ (by
    have e : go Y s = (s.1, (2, Y.2.1 s.1), s.2.2) := by unfold go; rw [if_pos hs0, if_pos (by omega)]
    rw [e]
    refine ⟨hA, ht, by show 2 < 8; decide, rfl, fun w => absurd w (by show ¬ 2 = 0; decide), fun _ => ⟨?_, htk.2.1⟩⟩
    show K.1 4 = _
    exact htk.1) ⟨fun n hn => by (have e1 : ¬ n = 9 := by omega); (have e2 : ¬ n = 8 := by omega); (have e3 : ¬ n = 2 := by omega); simp only [va_up, if_neg e1, if_neg e2, if_neg e3], rfl⟩)
    · refine aw rfl rfl ?_
      refine aw_getfE rfl zg_40 rfl (congrArg Value.int (show va_up K.1 2 _ 2 = _ from vu_at)) ?_
      refine aw_gen rfl ?_
      refine aw rfl rfl ?_
      refine aw rfl rfl ?_
      refine aw_getf rfl zg_40 rfl ?_
      refine aw_getf rfl zg_42 rfl ?_
      refine aw rfl rfl ?_
      refine aw_getfE rfl zg_40 rfl (congrArg Value.int rfl) ?_
      refine aw_iald rfl zg_43 rfl (by omega) (by decide) ?_
      refine aw_putfU rfl zg_40 rfl rfl (by decide) zp_40_3 ?_
      refine aw rfl rfl ?_
      refine aw rfl rfl ?_
      refine aw_getf rfl zg_40 rfl ?_
      refine aw_getf rfl zg_42 rfl ?_
      refine aw rfl rfl ?_
      refine aw_getfE rfl zg_40 rfl (congrArg Value.int rfl) ?_
      refine aw_iald rfl zg_44 rfl (by omega) (by decide) ?_
      refine aw_putfU rfl zg_40 rfl rfl (by decide) zp_40_4 ?_
      refine aw rfl rfl ?_
      refine aw rfl rfl ?_
      refine aw_getf rfl zg_40 rfl ?_
      refine aw_getf rfl zg_42 rfl ?_
      refine aw rfl rfl ?_
      refine aw_getfE rfl zg_40 rfl (congrArg Value.int rfl) ?_
      refine aw_iald rfl zg_45 rfl (by omega) (by decide) ?_
      refine aw_putfU rfl zg_40 rfl rfl (by decide) zp_40_5 ?_
      exact aw_vret rfl rfl (q _ (by
    have e : go Y s = (s.1 + 1, s.2) := by unfold go; rw [if_pos hs0, if_neg (by omega)]
    rw [e]
    refine ⟨hA, by show s.1 + 1 ≤ 400; omega, hf8, h8, fun _ => ⟨rfl, hA (s.1 + 1) (by omega), hl8, h10, h11⟩, fun w => absurd hs0 w⟩) ⟨fun n hn => by (have e1 : ¬ n = 3 := by omega); (have e2 : ¬ n = 4 := by omega); (have e3 : ¬ n = 2 := by omega); (have e4 : ¬ n = 5 := by omega); simp only [va_up, if_neg e1, if_neg e2, if_neg e3, if_neg e4], rfl⟩)
end C1
