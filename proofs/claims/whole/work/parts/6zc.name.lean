/-! ===== names as numbers; the class's tokens: letterAt, nameAt; isToldKick ===== -/
/-- a number to the base b; the last digit first -/
def nr (b : Nat) : List Nat → Nat
  | [] => 0
  | c :: r => nr b r * b + c
theorem nr_inj {b : Nat} : ∀ l l' : List Nat, (∀ c ∈ l, 1 ≤ c ∧ c < b) → (∀ c ∈ l', 1 ≤ c ∧ c < b) → nr b l = nr b l' → l = l' := by
  intro l
  induction l with
  | nil =>
    intro l' _ h' e
    cases l' with
    | nil => rfl
    | cons c r => have := h' c (List.mem_cons_self ..); rw [nr, nr] at e; omega
  | cons c r ih =>
    intro l' h h' e
    cases l' with
    | nil => have := h c (List.mem_cons_self ..); rw [nr, nr] at e; omega
    | cons c' r' =>
      have h1 := h c (List.mem_cons_self ..)
      have h2 := h' c' (List.mem_cons_self ..)
      rw [nr, nr] at e
      have e1 : c = c' := by
        have e3 := congrArg (· % b) e
        simp only [Nat.mul_add_mod_self_right, Nat.mod_eq_of_lt h1.2, Nat.mod_eq_of_lt h2.2] at e3
        exact e3
      subst e1
      have e2 : nr b r = nr b r' := Nat.eq_of_mul_eq_mul_right (by omega) (Nat.add_right_cancel e)
      rw [ih r' (fun x hx => h x (List.mem_cons_of_mem _ hx)) (fun x hx => h' x (List.mem_cons_of_mem _ hx)) e2]
theorem nr_lt {b : Nat} (hb : 0 < b) : ∀ l : List Nat, (∀ c ∈ l, c < b) → nr b l < b ^ l.length := by
  intro l
  induction l with
  | nil => intro _; exact Nat.one_pos
  | cons c r ih =>
    intro h
    have h1 := h c (List.mem_cons_self ..)
    have h2 := ih (fun x hx => h x (List.mem_cons_of_mem _ hx))
    rw [nr, List.length_cons, Nat.pow_succ]
    have h3 : (nr b r + 1) * b ≤ b ^ r.length * b := Nat.mul_le_mul_right b h2
    rw [Nat.add_mul, Nat.one_mul] at h3
    omega
def f32 (a : Int64) (c : Nat) : Int64 := a <<< ((nI 5).toInt64 &&& 63) ||| (nI c).toInt64
theorem f32_n {a c : Nat} (ha : a < 2 ^ 35) (hc : c < 32) : f32 (Int64.ofNat a) c = Int64.ofNat (a * 32 + c) := by
  unfold f32
  rw [show (nI 5).toInt64 &&& 63 = 5 by decide, nI_l (by omega)]
  unfold lN
  apply Int64.toBitVec_inj.mp
  rw [Int64.toBitVec_or, Int64.toBitVec_shiftLeft, Int64.toBitVec_ofNat', Int64.toBitVec_ofNat', Int64.toBitVec_ofNat']
  apply BitVec.eq_of_toNat_eq
  rw [BitVec.toNat_or, show (Int64.toBitVec 5).smod 64 = 5#64 by decide, BitVec.shiftLeft_eq', BitVec.toNat_shiftLeft, show (5#64).toNat = 5 from rfl, BitVec.toNat_ofNat, BitVec.toNat_ofNat, BitVec.toNat_ofNat]
  have e1 : a % 2 ^ 64 = a := Nat.mod_eq_of_lt (by omega)
  have e2 : c % 2 ^ 64 = c := Nat.mod_eq_of_lt (by omega)
  have e3 : (a * 32 + c) % 2 ^ 64 = a * 32 + c := Nat.mod_eq_of_lt (by omega)
  have e4 : (a <<< 5) % 2 ^ 64 = a <<< 5 := by rw [Nat.shiftLeft_eq]; exact Nat.mod_eq_of_lt (by omega)
  rw [e1, e2, e3, e4, ← Nat.shiftLeft_add_eq_or_of_lt (show c < 2 ^ 5 by omega), Nat.shiftLeft_eq]
/-- a name of letters, as the class has it -/
def n32 (l : List Nat) : Int64 := Int64.ofNat (nr 32 l.reverse)
def ltO (l : List Nat) : Prop := ∀ c ∈ l, 1 ≤ c ∧ c ≤ 26
theorem n32_inj {l l' : List Nat} (h : ltO l) (h' : ltO l') (hl : l.length ≤ 8) (hl' : l'.length ≤ 8) : n32 l = n32 l' ↔ l = l' := by
  constructor
  · intro e
    unfold n32 at e
    have b1 := nr_lt (b := 32) (by decide) l.reverse (fun c hc => by have := h c (List.mem_reverse.mp hc); omega)
    have b2 := nr_lt (b := 32) (by decide) l'.reverse (fun c hc => by have := h' c (List.mem_reverse.mp hc); omega)
    rw [List.length_reverse] at b1 b2
    have p1 : 32 ^ l.length ≤ 32 ^ 8 := Nat.pow_le_pow_right (by decide) hl
    have p2 : 32 ^ l'.length ≤ 32 ^ 8 := Nat.pow_le_pow_right (by decide) hl'
    have e2 := congrArg (fun x : Int64 => x.toBitVec.toNat) e
    simp only [Int64.toBitVec_ofNat', BitVec.toNat_ofNat] at e2
    rw [Nat.mod_eq_of_lt (by omega), Nat.mod_eq_of_lt (by omega)] at e2
    have e3 := nr_inj l.reverse l'.reverse (fun c hc => by have := h c (List.mem_reverse.mp hc); omega) (fun c hc => by have := h' c (List.mem_reverse.mp hc); omega) e2
    have e4 := congrArg List.reverse e3
    rw [List.reverse_reverse, List.reverse_reverse] at e4
    exact e4
  · intro e; rw [e]
theorem n32_s {l : List Nat} {i : Nat} (h : ltO l) (hi : i < l.length) (hl : l.length ≤ 8) : f32 (n32 (l.take i)) (l.getD i 0) = n32 (l.take (i + 1)) := by
  have hm : l.getD i 0 ∈ l := by rw [List.getD_eq_getElem?_getD, List.getElem?_eq_getElem hi]; exact List.getElem_mem hi
  have h1 := h _ hm
  have b1 := nr_lt (b := 32) (by decide) (l.take i).reverse (fun c hc => by have := h c (List.mem_of_mem_take (List.mem_reverse.mp hc)); omega)
  rw [List.length_reverse, List.length_take] at b1
  have p1 : 32 ^ (min i l.length) ≤ 32 ^ 7 := Nat.pow_le_pow_right (by decide) (by omega)
  unfold n32
  rw [f32_n (by omega) (by omega), List.take_add_one, List.getElem?_eq_getElem hi, List.reverse_append]
  rw [List.getD_eq_getElem?_getD, List.getElem?_eq_getElem hi]
  rfl
theorem n_let : ∀ c, c < 27 → (1 ≤ c → nI (96 + c) - nI 97 + nI 1 = nI c) := by decide +kernel
/-- the class's tape holds the letters of the names -/
def TN (Y : Tk) (K : Ck) (n : Nat) : Prop := K.1 12 = nI n ∧ n ≤ 2000 ∧ ∀ i, i ≤ 400 → Y.1 i = 1 → Y.2.1 i + (Y.2.2.2 i).length ≤ n ∧ ltO (Y.2.2.2 i) ∧ ∀ j, j < (Y.2.2.2 i).length → K.2.1 9 (Y.2.1 i + j) = nI (96 + (Y.2.2.2 i).getD j 0)
theorem TN.kq {Y : Tk} {K K' : Ck} {n : Nat} (h : TN Y K n) (h12 : K'.1 12 = K.1 12) (h9 : K'.2.1 9 = K.2.1 9) : TN Y K' n := by unfold TN at *; rw [h12, h9]; exact h
theorem lt_at {l : List Nat} {j : Nat} (h : ltO l) (hj : j < l.length) : 1 ≤ l.getD j 0 ∧ l.getD j 0 ≤ 26 := by
  have hm : l.getD j 0 ∈ l := by rw [List.getD_eq_getElem?_getD, List.getElem?_eq_getElem hj]; exact List.getElem_mem hj
  exact h _ hm
section C1
variable {z : Bool} {g : am_H} {T : Sd} {u : Ua} {X : Sd × Ua} {K : Ck} {rf : Nat → Nat}
variable {Y : Tk} {s : Ps} {n : Nat}
theorem c_X9_letterAt {Q : Option Value → am_H → Prop} (hN : TN Y K n) {i j : Nat} (hi : i ≤ 400) (h1 : Y.1 i = 1) (hj : j < (Y.2.2.2 i).length) (q : Q (some (.int (nI (96 + (Y.2.2.2 i).getD j 0)))) (cz z g T u X K rf)) : AC am_P 0 0 126 [.ref 42, .int (nI (Y.2.1 i + j))] (cz z g T u X K rf) Q := by
  refine AC.of (ls := [_, _]) rfl ?_
  obtain ⟨h12, hn2, hN⟩ := hN
  obtain ⟨hp, hl, hb⟩ := hN i hi h1
  have hb := hb j hj
  have hlt := lt_at hl hj
  refine aw rfl rfl ?_
  refine aw_ltn rfl ?_
  refine aw rfl rfl ?_
  refine aw rfl rfl ?_
  refine aw_getfE rfl zg_42 rfl (congrArg Value.int h12) ?_
  refine aw_igen rfl (fun c9 => by omega) (fun c9 => ?_)
  refine aw rfl rfl ?_
  refine aw_getf rfl zg_42 rfl ?_
  refine aw rfl rfl ?_
  refine aw_bald rfl zg_9 rfl (by omega) (by decide) ?_
  rw [hb]
  refine aw rfl rfl ?_
  refine aw rfl rfl ?_
  exact aw_iret rfl (by rw [i2c_n _ (by omega)]; exact rt3 _ (by omega)) (by rw [i2c_n _ (by omega)]; exact q)
theorem c_X9_nameAt {Q : Option Value → am_H → Prop} (hN : TN Y K n) {i : Nat} (hi : i ≤ 400) (h1 : Y.1 i = 1) (hl8 : (Y.2.2.2 i).length ≤ 8) (q : Q (some (.long (n32 (Y.2.2.2 i)))) (cz z g T u X K rf)) : AC am_P 1 21 127 [.ref 42, .int (nI (Y.2.1 i)), .int (nI (Y.2.2.2 i).length)] (cz z g T u X K rf) Q := by
  refine AC.of (ls := [_, _, _, _, _, _]) rfl ?_
  have hN0 := hN
  obtain ⟨h12, hn2, hN⟩ := hN
  obtain ⟨hp, hl, hb⟩ := hN i hi h1
  refine aw rfl rfl ?_
  refine aw_lst (ls' := [_, _, _, _, _, _]) rfl rfl ?_
  refine aw_c (v := nI 0) rfl (by decide) ?_
  refine aw_ist (ls' := [_, _, _, _, _, _]) rfl rfl ?_
  refine aw_loop (α := Unit) (ll := fun j y => [some (.ref 42), some (.int (nI (Y.2.1 i))), some (.int (nI (Y.2.2.2 i).length)), some (.long (n32 ((Y.2.2.2 i).take j))), none, some (.int (nI j))]) (hh := fun j y => (cz z g T u X K rf)) (I := fun j y => True) (N := (Y.2.2.2 i).length) (fun j y hj hI ih => ?_) (fun y hI => ?_) 0 () (Nat.zero_le _) trivial
  · skip
    refine aw rfl rfl ?_
    refine aw_c (v := nI 8) rfl (by decide) ?_
    refine aw_igen rfl (fun c9 => by omega) (fun c9 => ?_)
    refine aw rfl rfl ?_
    refine aw rfl rfl ?_
    refine aw_igen rfl (fun c15 => by omega) (fun c15 => ?_)
    refine aw rfl rfl ?_
    refine aw_c (v := nI 5) rfl (by decide) ?_
    refine aw rfl rfl ?_
    refine aw rfl rfl ?_
    refine aw rfl rfl ?_
    refine aw rfl rfl ?_
    refine aw_addn rfl ?_
    refine aw_cv (d1 := 0) (L1 := 0) rfl rfl zg_42 rfl rfl (by decide) (by decide) (Nat.le_of_ble_eq_true rfl) (c_X9_letterAt (j := j) hN0 hi h1 hj ?_)
    refine aw_c (v := nI 97) rfl (by decide) ?_
    refine aw rfl rfl ?_
    refine aw_c (v := nI 1) rfl (by decide) ?_
    refine aw rfl rfl ?_
    have hlt := lt_at hl hj
    rw [n_let _ (by omega) hlt.1]
    refine aw rfl rfl ?_
    refine aw rfl rfl ?_
    refine aw_lst (ls' := [_, _, _, _, _, _]) rfl rfl ?_
    refine aw_incn (c := 1) (ls' := [_, _, _, _, _, _]) rfl rfl (by decide) rfl ?_
    refine aw rfl rfl ?_
    have ih := ih () trivial
    rw [← n32_s hl hj hl8] at ih
    exact ih
  · skip
    refine aw rfl rfl ?_
    refine aw_c (v := nI 8) rfl (by decide) ?_
    refine aw_igen rfl (fun c9 => ?_) (fun c9 => ?_)
    · refine aw rfl rfl ?_
      exact aw_lret rfl rfl (by rw [List.take_length] at *; exact q)
    · refine aw rfl rfl ?_
      refine aw rfl rfl ?_
      refine aw_igen rfl (fun c15 => ?_) (fun c15 => by omega)
      refine aw rfl rfl ?_
      exact aw_lret rfl rfl (by rw [List.take_length] at *; exact q)
theorem c_X4_isToldKick {Q : Option Value → am_H → Prop} (hz : rf 2 = zq z) (h3 : T.1 3 ≤ 4) {x : Int64} (q1 : ∀ j, j < T.1 3 → K.2.2.2.1 j = x → Q (some (.int (nI 1))) (cz z g T u X K rf)) (q0 : (∀ j, j < T.1 3 → ¬ K.2.2.2.1 j = x) → Q (some (.int (nI 0))) (cz z g T u X K rf)) : AC am_P 0 0 51 [.ref 40, .long x] (cz z g T u X K rf) Q := by
  refine AC.of (ls := [_, _, _, _]) rfl ?_
  refine aw_c (v := nI 0) rfl (by decide) ?_
  refine aw_ist (ls' := [_, _, _, _]) rfl rfl ?_
  refine aw_loop (α := Unit) (ll := fun j y => [some (.ref 40), some (.long x), none, some (.int (nI j))]) (hh := fun j y => (cz z g T u X K rf)) (I := fun j y => ∀ j9, j9 < j → ¬ K.2.2.2.1 j9 = x) (N := T.1 3) (fun j y hj hI ih => ?_) (fun y hI => ?_) 0 () (Nat.zero_le _) (fun j hj => absurd hj (Nat.not_lt_zero _))
  · skip
    refine aw rfl rfl ?_
    refine aw rfl rfl ?_
    refine aw_getfE rfl zg_40 rfl (congrArg Value.ref hz) ?_
    refine aw_getf rfl zs_0 rfl ?_
    refine aw_igen rfl (fun c10 => by omega) (fun c10 => ?_)
    refine aw rfl rfl ?_
    refine aw rfl rfl ?_
    refine aw_getf rfl zg_40 rfl ?_
    refine aw_alen rfl zg_41 rfl ?_
    refine aw_igen rfl (fun c19 => by omega) (fun c19 => ?_)
    refine aw rfl rfl ?_
    refine aw_getf rfl zg_40 rfl ?_
    refine aw rfl rfl ?_
    refine aw_lald rfl zg_41 rfl (by omega) (by decide) ?_
    refine aw rfl rfl ?_
    refine aw rfl rfl ?_
    refine aw_ne rfl (fun c30 => ?_) (fun c30 => ?_)
    · refine aw_incn (c := 1) (ls' := [_, _, _, _]) rfl rfl (by decide) rfl ?_
      refine aw rfl rfl ?_
      exact ih () (fun j9 h9 => by
        by_cases e : j9 = j
        · subst e; exact fun w => c30 ((lg_cmp_eq _ _).mpr w)
        · exact hI j9 (by omega))
    · refine aw_c (v := nI 1) rfl (by decide) ?_
      exact aw_iret rfl rfl (q1 j hj ((lg_cmp_eq _ _).mp c30))
  · skip
    refine aw rfl rfl ?_
    refine aw rfl rfl ?_
    refine aw_getfE rfl zg_40 rfl (congrArg Value.ref hz) ?_
    refine aw_getf rfl zs_0 rfl ?_
    refine aw_igen rfl (fun c10 => ?_) (fun c10 => by omega)
    refine aw_c (v := nI 0) rfl (by decide) ?_
    exact aw_iret rfl rfl (q0 hI)
end C1
