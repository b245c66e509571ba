/-! ===== laws; the class's reader: takeBranch, takeLaw ===== -/
/-- behind 'if': what is tested, what it is then -/
def lwB (Y : Tk) (s : Ps) : (Option (Ex × Ex) × Ex) × Ps := ((some ((xp Y (go Y s)).1, (xp Y (mu Y 13 (xp Y (go Y s)).2)).1), (xp Y (mu Y 34 (xp Y (mu Y 13 (xp Y (go Y s)).2)).2)).1), mu Y 35 (xp Y (mu Y 34 (xp Y (mu Y 13 (xp Y (go Y s)).2)).2)).2)
def lwL (Y : Tk) : Nat → Ps → Lw × Ps
  | 0, s => if s.2.1.1 = 0 ∧ Y.1 s.1 = 33 then ([], fl Y 2 s) else ([(none, (xp Y s).1)], (xp Y s).2)
  | n + 1, s => if s.2.1.1 = 0 ∧ Y.1 s.1 = 33 then ((lwB Y s).1 :: (lwL Y n (lwB Y s).2).1, (lwL Y n (lwB Y s).2).2) else ([(none, (xp Y s).1)], (xp Y s).2)
def lwA (Y : Tk) (s : Ps) : Lw × Ps := lwL Y 4 (mu Y 5 (go Y s))
def usB (b : Option (Ex × Ex) × Ex) : Bool := (match b.1 with | none => false | some w => usS w.1 || usS w.2) || usS b.2
def usL (w : Lw) : Bool := w.any usB
def brl (b : Option (Ex × Ex) × Ex) : Nat := match b.1 with
  | none => b.2.length + 1
  | some w => w.1.length + w.2.length + 1 + b.2.length + 1
def brc (base : Nat) (b : Option (Ex × Ex) × Ex) : List Int32 := match b.1 with
  | none => b.2.map encP ++ [enc 7 (nI 0)]
  | some w => w.1.map encP ++ w.2.map encP ++ [enc 6 (nI (base + brl b))] ++ b.2.map encP ++ [enc 7 (nI 0)]
def lcode : Nat → Lw → List Int32
  | _, [] => []
  | base, b :: t => brc base b ++ lcode (base + brl b) t
theorem brc_len {base : Nat} {b : Option (Ex × Ex) × Ex} : (brc base b).length = brl b := by
  obtain ⟨w, e⟩ := b
  cases w with
  | none => simp [brc, brl]
  | some w => simp [brc, brl]; omega
theorem set_mid {A B : List Int32} {x y : Int32} : (A ++ [x] ++ B).set A.length y = A ++ [y] ++ B := by
  induction A with
  | nil => rfl
  | cons a A ih => exact congrArg (List.cons a) ih
theorem xp_0 {Y : Tk} {s : Ps} (h : (xp Y s).2.2.1.1 = 0) : s.2.1.1 = 0 := Decidable.of_not_not (fun z => by rw [xp_f z] at h; exact z h)
def KQ6 (K K' : Ck) : Prop := (∀ n, n < 2 ∨ 11 < n → K'.1 n = K.1 n) ∧ K'.2 = K.2
theorem KQ.k6 {K K' : Ck} (h : KQ K K') : KQ6 K K' := ⟨fun n hn => h.1 n (by omega), h.2⟩
theorem KQ6.tr {K K1 K2 : Ck} (h : KQ6 K K1) (h1 : KQ6 K1 K2) : KQ6 K K2 := ⟨fun n hn => (h1.1 n hn).trans (h.1 n hn), h1.2.trans h.2⟩
/-- what a law that is told leaves of a street -/
def TL (T T' : Sd) : Prop := (∀ j, j ≠ 7 → j ≠ 8 → T'.1 j = T.1 j) ∧ (∀ j, j ≠ 8 → j ≠ 9 → T'.2 j = T.2 j)
theorem tm_or {n a : Nat} {b c : Bool} (hn : n < 8) (ha : a < 3) : (if c then tmS (if b then tmS n a else n) a else (if b then tmS n a else n)) = if (b || c) then tmS n a else n := by
  cases b <;> cases c <;> first | rfl | exact tmS_i n hn a ha
section C1
variable {z : Bool} {g : am_H} {T : Sd} {u : Ua} {X : Sd × Ua} {K : Ck} {rf : Nat → Nat}
variable {Y : Tk} {s : Ps} {C : List Int32} {l : List Nat}
theorem go_E {s' : Ps} (h : go Y s = s') (h0 : s'.2.1.1 = 0) : s.2.1.1 = 0 ∧ s'.1 = s.1 + 1 ∧ s'.2 = s.2 := by
  subst h
  obtain ⟨g1, g2, g3⟩ := go_1 h0
  rw [g3]
  exact ⟨g1, rfl, rfl⟩
theorem mu_E {k : Nat} {s' : Ps} (h : mu Y k s = s') (h0 : s'.2.1.1 = 0) : s.2.1.1 = 0 ∧ Y.1 s.1 = k ∧ s'.1 = s.1 + 1 ∧ s'.2 = s.2 := by
  subst h
  obtain ⟨g1, g2, g3, g4⟩ := mu_1 h0
  rw [g4]
  exact ⟨g1, g2, rfl, rfl⟩
theorem xp_E {s' : Ps} {e : Ex} (h : xp Y s = (e, s')) (hs : s.1 ≤ 400) (hk : ∀ i, kOK (Y.1 i)) (h0 : s'.2.1.1 = 0) : s.2.1.1 = 0 ∧ ex_wf e 0 ∧ e.length + s.1 ≤ s'.1 ∧ s.1 + 1 ≤ s'.1 := by
  have h1 : (xp Y s).2.2.1.1 = 0 := by rw [h]; exact h0
  obtain ⟨x1, x2, x3, x4⟩ := xp_ok (xp_0 h1) hs hk h1
  rw [h] at x1 x2 x4
  exact ⟨xp_0 h1, x1, x2, x4⟩
theorem c_takeE {Q : Option Value → am_H → Prop} {s' : Ps} (hR : RS Y K s) (h : go Y s = s') (q : ∀ K', RS Y K' s' → KQ K K' → Q none (cz z g T u X K' rf)) : AC am_P 0 0 44 [.ref 40] (cz z g T u X K rf) Q := by
  subst h
  exact c_X4_take hR q
theorem c_failE {Q : Option Value → am_H → Prop} {s' : Ps} {c : Nat} (hR : RS Y K s) (h : fl Y c s = s') (hc : 1 ≤ c ∧ c < 8) (q : ∀ K', RS Y K' s' → KQ K K' → Q none (cz z g T u X K' rf)) : AC am_P 0 0 47 [.ref 40, .int (nI c)] (cz z g T u X K rf) Q := by
  subst h
  exact c_X4_fail hR hc q
theorem c_signE {Q : Option Value → am_H → Prop} {s' : Ps} {k w : Nat} (hR : RS Y K s) (h : mu Y k s = s') (hk : sgK k) (hw : sgB k = w) (q : ∀ K', RS Y K' s' → KQ K K' → Q none (cz z g T u X K' rf)) : AC am_P 1 21 59 [.ref 40, .int (nI w)] (cz z g T u X K rf) Q := by
  subst h
  exact c_X4_takeSign hR hk hw q
theorem c_wordE {Q : Option Value → am_H → Prop} {s' : Ps} {m k w : Nat} (hR : RS Y K s) (h : mu Y m s = s') (hm : m = 20 + k) (hk : k < 23) (hw : wdC k = w) (q : ∀ K', RS Y K' s' → KQ K K' → Q none (cz z g T u X K' rf)) : AC am_P 1 21 55 [.ref 40, .int (nI w)] (cz z g T u X K rf) Q := by
  subst h
  subst hm
  exact c_X4_takeWord hR hk hw q
theorem c_intE {Q : Option Value → am_H → Prop} {s' : Ps} {lo hi : Nat} (hR : RS Y K s) (h : iS Y lo hi s = s') (hlo : lo ≤ 9999) (hhi : hi ≤ 9999) (q : ∀ K' x, RS Y K' s' → KQ K K' → (s'.2.1.1 = 0 → x = nI (iV Y lo s)) → Q (some (.int x)) (cz z g T u X K' rf)) : AC am_P 1 22 54 [.ref 40, .int (nI lo), .int (nI hi)] (cz z g T u X K rf) Q := by
  subst h
  exact c_X4_takeInt hR hlo hhi q
theorem c_formE {Q : Option Value → am_H → Prop} {s' : Ps} {e : Ex} (hR : RS Y K s) (h : xp Y s = (e, s')) (hz : rf 2 = zq z) {a : Nat} (ha : a < 3) (h6 : K.1 6 = nI a) (h8 : T.1 8 < 8) (hk : ∀ i, kOK (Y.1 i)) (hL : LA T u C l) (hok : s.2.1.1 = 0 → l = [] ∧ C.length + 1 ≤ s.1) (q : ∀ K' T' u' C' l', RS Y K' s' → KQ K K' → LA T' u' C' l' → TM T T' → T'.1 8 < 8 → (s'.2.1.1 = 0 → C' = C ++ e.map encP ∧ C'.length = C.length + e.length ∧ l' = [] ∧ T'.1 8 = (if usS e then tmS (T.1 8) a else T.1 8)) → Q none (cz z g T' u' X K' rf)) : AC am_P 2 44 61 [.ref 40] (cz z g T u X K rf) Q := by
  refine c_X4_takeFormula hR hz ha h6 h8 hk hL hok (fun K1 T1 u1 C1 l1 b1 b2 b3 b4 b5 b6 => ?_)
  rw [h] at b1 b6
  exact q K1 T1 u1 C1 l1 b1 b2 b3 b4 b5 (fun h0 => by obtain ⟨d1, d2, d3⟩ := b6 h0; exact ⟨d1, by rw [d1, List.length_append, List.length_map], d2, d3⟩)
theorem c_X4_takeBranch {Q : Option Value → am_H → Prop} (hR : RS Y K s) (hz : rf 2 = zq z) {a : Nat} (ha : a < 3) (h6 : K.1 6 = nI a) (h8 : T.1 8 < 8) (hk : ∀ i, kOK (Y.1 i)) (hL : LA T u C l) (hl : l = []) (hm : C.length + 1 ≤ s.1) (q : ∀ K' T' u' C' l', RS Y K' (lwB Y s).2 → KQ K K' → LA T' u' C' l' → TM T T' → T'.1 8 < 8 → ((lwB Y s).2.2.1.1 = 0 → C' = C ++ brc C.length (lwB Y s).1 ∧ l' = [] ∧ C'.length + 1 ≤ (lwB Y s).2.1 ∧ T'.1 8 = (if usB (lwB Y s).1 then tmS (T.1 8) a else T.1 8)) → Q none (cz z g T' u' X K' rf)) : AC am_P 3 68 60 [.ref 40] (cz z g T u X K rf) Q := by
  refine AC.of (ls := [_, _]) rfl ?_
  have hs4 := hR.2.1
  obtain ⟨s1, hg1⟩ : ∃ p, go Y s = p := ⟨_, rfl⟩
  obtain ⟨⟨e2, s2⟩, hx2⟩ : ∃ p, xp Y s1 = p := ⟨_, rfl⟩
  obtain ⟨s3, hm3⟩ : ∃ p, mu Y 13 s2 = p := ⟨_, rfl⟩
  obtain ⟨⟨e4, s4⟩, hx4⟩ : ∃ p, xp Y s3 = p := ⟨_, rfl⟩
  obtain ⟨s6, hm6⟩ : ∃ p, mu Y 34 s4 = p := ⟨_, rfl⟩
  obtain ⟨⟨e7, s7⟩, hx7⟩ : ∃ p, xp Y s6 = p := ⟨_, rfl⟩
  obtain ⟨s8, hm8⟩ : ∃ p, mu Y 35 s7 = p := ⟨_, rfl⟩
  have hB : lwB Y s = ((some (e2, e4), e7), s8) := by simp only [lwB, hg1, hx2, hm3, hx4, hm6, hx7, hm8]
  rw [hB] at q
  clear hB
  refine aw rfl rfl ?_
  refine aw_cv (d1 := 0) (L1 := 0) rfl rfl zg_40 rfl rfl (by decide) (by decide) (Nat.le_of_ble_eq_true rfl) (c_takeE hR hg1 (fun K1 hR1 hK1 => ?_))
  refine aw rfl rfl ?_
  refine aw_cv (d1 := 2) (L1 := 44) rfl rfl zg_40 rfl rfl (by decide) (by decide) (Nat.le_of_ble_eq_true rfl) (c_formE hR1 hx2 hz ha (by rw [hK1.1 6 (by omega)]; exact h6) h8 hk hL (fun hg => ⟨hl, by have := go_E hg1 hg; omega⟩) (fun K2 T2 u2 C2 l2 hR2 hK2 hL2 hT2 h82 ok2 => ?_))
  refine aw rfl rfl ?_
  refine aw_c (v := nI 60) rfl (by decide) ?_
  refine aw_cv (d1 := 1) (L1 := 21) rfl rfl zg_40 rfl rfl (by decide) (by decide) (Nat.le_of_ble_eq_true rfl) (c_signE hR2 hm3 (by unfold sgK; decide) rfl (fun K3 hR3 hK3 => ?_))
  refine aw rfl rfl ?_
  refine aw_cv (d1 := 2) (L1 := 44) rfl rfl zg_40 rfl rfl (by decide) (by decide) (Nat.le_of_ble_eq_true rfl) (c_formE hR3 hx4 hz ha (by rw [hK3.1 6 (by omega), hK2.1 6 (by omega), hK1.1 6 (by omega)]; exact h6) h82 hk hL2 (fun hg => by have m := mu_E hm3 hg; have x := xp_E hx2 hR1.2.1 hk m.1; have y := go_E hg1 x.1; have o := ok2 m.1; exact ⟨o.2.2.1, by omega⟩) (fun K4 T4 u4 C4 l4 hR4 hK4 hL4 hT4 h84 ok4 => ?_))
  refine aw rfl rfl ?_
  refine aw_getfE rfl zg_40 rfl (congrArg Value.ref hz) ?_
  refine aw_getf rfl zs_0 rfl ?_
  refine aw_c (v := nI 6) rfl (by decide) ?_
  refine aw_c (v := nI 0) rfl (by decide) ?_
  refine aw_cv (d1 := 0) (L1 := 0) rfl rfl zs_7 rfl rfl (by decide) (by decide) (Nat.le_of_ble_eq_true rfl) (c_X1_add hL4 (fun T5 hL5 hT5 => ?_))
  refine aw_ist (ls' := [_, _]) rfl rfl ?_
  refine aw rfl rfl ?_
  refine aw_c (v := nI 14) rfl (by decide) ?_
  refine aw_cv (d1 := 1) (L1 := 21) rfl rfl zg_40 rfl rfl (by decide) (by decide) (Nat.le_of_ble_eq_true rfl) (c_wordE (k := 14) hR4 hm6 rfl (by decide) rfl (fun K6 hR6 hK6 => ?_))
  refine aw rfl rfl ?_
  refine aw_cv (d1 := 2) (L1 := 44) rfl rfl zg_40 rfl rfl (by decide) (by decide) (Nat.le_of_ble_eq_true rfl) (c_formE hR6 hx7 hz ha (by rw [hK6.1 6 (by omega), hK4.1 6 (by omega), hK3.1 6 (by omega), hK2.1 6 (by omega), hK1.1 6 (by omega)]; exact h6) (by rw [hT5.1 8 (by decide)]; exact h84) hk hL5 (fun hg => by have m6 := mu_E hm6 hg; have x4 := xp_E hx4 hR3.2.1 hk m6.1; have m3 := mu_E hm3 x4.1; have x2 := xp_E hx2 hR1.2.1 hk m3.1; have y := go_E hg1 x2.1; have o2 := ok2 m3.1; have o4 := ok4 m6.1; have b4 := hR4.2.1; exact ⟨o4.2.2.1, by rw [cad_n (by omega), List.length_append, List.length_singleton]; omega⟩) (fun K7 T7 u7 C7 l7 hR7 hK7 hL7 hT7 h87 ok7 => ?_))
  refine aw rfl rfl ?_
  refine aw_c (v := nI 15) rfl (by decide) ?_
  refine aw_cv (d1 := 1) (L1 := 21) rfl rfl zg_40 rfl rfl (by decide) (by decide) (Nat.le_of_ble_eq_true rfl) (c_wordE (k := 15) hR7 hm8 rfl (by decide) rfl (fun K8 hR8 hK8 => ?_))
  refine aw rfl rfl ?_
  refine aw_getfE rfl zg_40 rfl (congrArg Value.ref hz) ?_
  refine aw_getf rfl zs_0 rfl ?_
  refine aw_c (v := nI 7) rfl (by decide) ?_
  refine aw_c (v := nI 0) rfl (by decide) ?_
  refine aw_cv (d1 := 0) (L1 := 0) rfl rfl zs_7 rfl rfl (by decide) (by decide) (Nat.le_of_ble_eq_true rfl) (c_X1_add hL7 (fun T9 hL9 hT9 => ?_))
  refine aw rfl rfl ?_
  refine aw rfl rfl ?_
  refine aw_getfE rfl zg_40 rfl (congrArg Value.ref hz) ?_
  refine aw_getf rfl zs_0 rfl ?_
  refine aw rfl rfl ?_
  refine aw_cv (d1 := 0) (L1 := 0) rfl rfl zs_7 rfl rfl (by decide) (by decide) (Nat.le_of_ble_eq_true rfl) (c_X1_aim hL9 (by have := cad_le (x := enc 6 (nI 0)) hL4.2.1; omega) (fun T10 hL10 hT10 => ?_))
  exact aw_vret rfl rfl (q K8 T10 u7 _ _ hR8 ((((((hK1.tr hK2).tr hK3).tr hK4).tr hK6).tr hK7).tr hK8) hL10 (((((hT2.tr hT4).tr hT5.tm).tr hT7).tr hT9.tm).tr hT10.tm) (by rw [hT10.1 8 (by decide), hT9.1 8 (by decide)]; exact h87) (fun hg => by
    have m8 := mu_E hm8 hg
    have x7 := xp_E hx7 hR6.2.1 hk m8.1
    have m6 := mu_E hm6 x7.1
    have x4 := xp_E hx4 hR3.2.1 hk m6.1
    have m3 := mu_E hm3 x4.1
    have x2 := xp_E hx2 hR1.2.1 hk m3.1
    have y := go_E hg1 x2.1
    have o2 := ok2 m3.1
    have o4 := ok4 m6.1
    have b4 := hR4.2.1
    have o7 := ok7 m8.1
    have b7 := hR7.2.1
    have n5 : (cad C4 (enc 6 (nI 0))).length = C4.length + 1 := by rw [cad_n (by omega), List.length_append, List.length_singleton]
    have n9 : (cad C7 (enc 7 (nI 0))).length = C7.length + 1 := by rw [cad_n (by omega), List.length_append, List.length_singleton]
    refine ⟨?_, o7.2.2.1, ?_, ?_⟩
    · rw [n5, n9, cad_n (show C7.length < 400 by omega), o7.2.1, n5, o7.1, cad_n (show C4.length < 400 by omega), show C4.length + 1 - 1 = C4.length by omega, List.append_assoc (C4 ++ [enc 6 (nI 0)]), set_mid, o4.2.1, o2.2.1, o4.1, o2.1]
      unfold brc brl
      dsimp only
      rw [show C.length + e2.length + e4.length + 1 + e7.length + 1 = C.length + (e2.length + e4.length + 1 + e7.length + 1) by omega]
      simp only [List.append_assoc]
    · rw [List.length_set, n9]
      show C7.length + 1 + 1 ≤ s8.1
      omega
    · rw [hT10.1 8 (by decide), hT9.1 8 (by decide), o7.2.2.2, hT5.1 8 (by decide), o4.2.2.2, o2.2.2.2, tm_or h8 ha, tm_or h8 ha]
      rfl))
end C1
