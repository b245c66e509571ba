/-! ===== Street: cars, landings ===== -/
/-- the laws as functions of the seven facts *-/
abbrev LWt : Type := Nat → Int32 → Int32 → Int32 → Int32 → Int32 → Int32 → Int32 → Int32
def LWs (T : Sd) (LW : LWt) : Prop := T.1 7 ≤ 400 ∧ (∀ k, k < 3 → T.2 9 k < nI 300000000) ∧ ∀ k, k < 3 → ∀ g sk, (n_val (T.2 8) (T.2 9) g (T.1 7) k sk).1 = LW k (g 0) (g 1) (g 2) (g 3) (g 4) (g 5) (g 6)
theorem SA.upd {h : am_H} {p q : Nat} {T : Sd} {c : am_C} (hS : SA h p T) (h1 : ¬ (p ≤ q ∧ q ≤ p + 9)) (h2 : q ≠ p + 13) (h3 : q ≠ p + 14) : SA (am_up h q c) p T := by
  obtain ⟨s0, s1, s2, s3, s4, s5, s6, ⟨w, s7⟩, s8, s9, s13, s14⟩ := hS
  exact ⟨hg_ne (by omega) s0, hg_ne (by omega) s1, hg_ne (by omega) s2, hg_ne (by omega) s3, hg_ne (by omega) s4, hg_ne (by omega) s5, hg_ne (by omega) s6, ⟨w, hg_ne (by omega) s7⟩, hg_ne (by omega) s8, hg_ne (by omega) s9, hg_ne (by omega) s13, hg_ne (by omega) s14⟩
theorem c_val {h : am_H} {Q : Option Value → am_H → Prop} {p k : Nat} {T : Sd} {LW : LWt} {f : Nat → Int32} (h8 : 8 ≤ p) (hS : SA h p T) (hf : h.2.2 (p + 11) = am_ints 7 f) (hX : ∃ f, h.2.2 (p + 12) = am_ints 32 f) (hW : LWs T LW) (hk : k < 3) (q : ∀ sk, Q (some (.int (LW k (f 0) (f 1) (f 2) (f 3) (f 4) (f 5) (f 6)))) (am_up h (p + 12) (am_ints 32 sk))) : AC am_P 1 22 24 [.ref (p + 7), .int (nI k)] h Q := by
  obtain ⟨s0, s1, s2, s3, s4, s5, s6, ⟨w, s7⟩, s8, s9, s13, s14⟩ := hS
  obtain ⟨sk, hk0⟩ := hX
  refine c_X1_value h8 s7 s8 s9 hf hk0 hk hW.1 (hW.2.1 k hk) ?_
  rw [hW.2.2 k hk]
  exact q _
abbrev n_car (T : Sd) (LW : LWt) (s : Nat) (x : Int32) : Prop := 0 < LW 2 (nI (s % 8)) (nI (s / 8)) (nI 0) (T.2 0 s) (-1) (nI 0) x
theorem c_X7_carsCome {h : am_H} {Q : Option Value → am_H → Prop} {p : Nat} {T : Sd} {LW : LWt} (h8 : 8 ≤ p) (hS : SA h p T) (hX : SX h p) (hW : LWs T LW) {s : Nat} {x : Int32} (hs : s < 32) (q1 : ∀ h1, FX p h h1 → n_car T LW s x → Q (some (.int (nI 1))) h1) (q0 : ∀ h1, FX p h h1 → ¬ n_car T LW s x → Q (some (.int (nI 0))) h1) : AC am_P 2 48 95 [.ref p, .int (nI s), .int x] h Q := by
  refine AC.of (ls := [_, _, _]) rfl ?_
  have hS0 := hS
  obtain ⟨s0, s1, s2, s3, s4, s5, s6, ⟨w, s7⟩, s8, s9, s13, s14⟩ := hS
  obtain ⟨⟨f, hf⟩, hk0⟩ := hX
  refine aw rfl rfl ?_
  refine aw_getf rfl (by repeat first | assumption | exact hg_eq | refine hg_ne (by first | assumption | omega) ?_) rfl ?_
  refine aw rfl rfl ?_
  refine aw_cs (d1 := 0) (L1 := 0) rfl rfl (by decide) (by decide) (Nat.le_of_ble_eq_true rfl) (c_X10_alongOf (by omega) ?_)
  refine aw rfl rfl ?_
  refine aw_cs (d1 := 0) (L1 := 0) rfl rfl (by decide) (by decide) (Nat.le_of_ble_eq_true rfl) (c_X10_acrossOf (by omega) ?_)
  refine aw_c (v := nI 0) rfl (by decide) ?_
  refine aw rfl rfl ?_
  refine aw rfl rfl ?_
  refine aw_cv (d1 := 0) (L1 := 0) rfl rfl (by repeat first | assumption | exact hg_eq | refine hg_ne (by first | assumption | omega) ?_) rfl rfl (by decide) (by decide) (Nat.le_of_ble_eq_true rfl) (c_X7_sortOf hS0 hs ?_)
  refine aw_cv (d1 := 0) (L1 := 0) rfl rfl (by repeat first | assumption | exact hg_eq | refine hg_ne (by first | assumption | omega) ?_) rfl rfl (by decide) (by decide) (Nat.le_of_ble_eq_true rfl) (c_X1_setWhere h8 s7 hf ?_)
  refine aw rfl rfl ?_
  refine aw_getf rfl (by repeat first | assumption | exact hg_eq | refine hg_ne (by first | assumption | omega) ?_) rfl ?_
  refine aw_c (v := -1) rfl (by decide) ?_
  refine aw_c (v := nI 0) rfl (by decide) ?_
  refine aw rfl rfl ?_
  refine aw_cv (d1 := 0) (L1 := 0) rfl rfl (by repeat first | assumption | exact hg_eq | refine hg_ne (by first | assumption | omega) ?_) rfl rfl (by decide) (by decide) (Nat.le_of_ble_eq_true rfl) (c_X1_setHow h8 (by repeat first | assumption | exact hg_eq | refine hg_ne (by first | assumption | omega) ?_) (by repeat first | assumption | exact hg_eq | refine hg_ne (by first | assumption | omega) ?_) ?_)
  rw [am_up_up]
  refine aw rfl rfl ?_
  refine aw_getf rfl (by repeat first | assumption | exact hg_eq | refine hg_ne (by first | assumption | omega) ?_) rfl ?_
  refine aw_c (v := nI 2) rfl (by decide) ?_
  refine aw_cv (d1 := 1) (L1 := 22) rfl rfl (by repeat first | assumption | exact hg_eq | refine hg_ne (by first | assumption | omega) ?_) rfl rfl (by decide) (by decide) (Nat.le_of_ble_eq_true rfl) (c_val h8 (hS0.upd (by omega) (by omega) (by omega)) (by repeat first | assumption | exact hg_eq | refine hg_ne (by first | assumption | omega) ?_) (by obtain ⟨g, hg⟩ := hk0; exact ⟨g, hg_ne (by omega) hg⟩) hW (by decide) (fun sk => ?_))
  refine aw_le rfl (fun c39 => ?_) (fun c39 => ?_)
  · refine aw_c (v := nI 0) rfl (by decide) ?_
    exact aw_iret rfl rfl (q0 _ ⟨_, _, rfl⟩ (Int32.not_lt.mpr c39))
  · refine aw_c (v := nI 1) rfl (by decide) ?_
    refine aw rfl rfl ?_
    exact aw_iret rfl rfl (q1 _ ⟨_, _, rfl⟩ (Int32.not_le.mp c39))
def n_lw (T : Sd) (LW : LWt) (k l way : Nat) (x : Int32) : Int32 := LW k (nI (l / 3 % 8)) (nI (l / 3 / 8)) (nI (l % 3)) (T.2 0 (l / 3)) (nI (way / 6)) (T.2 3 way) x
def n_a1 (T : Sd) (LW : LWt) (l way : Nat) (x : Int32) : Int32 := nI (l / 3 % 8) + T.2 3 way + n_held (n_lw T LW 1 l way x) (nI 4)
def n_c1 (T : Sd) (LW : LWt) (l way : Nat) (x : Int32) : Int32 := nI (l / 3 / 8) + T.2 4 way + n_held (n_lw T LW 0 l way x) (nI 2)
def n_a2 (T : Sd) (LW : LWt) (l way : Nat) (x : Int32) : Int32 := if nI 0 < (if n_a1 T LW l way x < nI (T.1 0) - nI 1 then n_a1 T LW l way x else nI (T.1 0) - nI 1) then (if n_a1 T LW l way x < nI (T.1 0) - nI 1 then n_a1 T LW l way x else nI (T.1 0) - nI 1) else nI 0
def n_tn (T : Sd) (l way : Nat) : Nat := (l % 3 + (T.2 5 way).toNatClampNeg) % T.1 2
def n_lnd (T : Sd) (LW : LWt) (l : Nat) (x A C : Int32) (tn : Nat) : Int32 := if C < 0 ∨ nI 4 ≤ C then -1 else if T.2 0 (C.toNatClampNeg * 8 + A.toNatClampNeg) = nI 5 then nI (l / 3 * 3 + tn) else if T.2 0 (C.toNatClampNeg * 8 + A.toNatClampNeg) = -1 ∨ T.2 0 (C.toNatClampNeg * 8 + A.toNatClampNeg) = nI 4 then -1 else if ¬ T.2 0 (C.toNatClampNeg * 8 + A.toNatClampNeg) = nI 6 ∧ n_car T LW (C.toNatClampNeg * 8 + A.toNatClampNeg) (x + nI (T.1 5)) then -1 else nI ((C.toNatClampNeg * 8 + A.toNatClampNeg) * 3 + tn)
/-- how it lies behind what is done: the lie, or -1 if it is lost *-/
def n_land (T : Sd) (LW : LWt) (l way : Nat) (x : Int32) : Int32 := if way = 24 then (if n_car T LW (l / 3) (x + nI (T.1 5)) then -1 else nI l) else n_lnd T LW l x (n_a2 T LW l way x) (n_c1 T LW l way x) (n_tn T l way)
theorem n_a2_in {T : Sd} {LW : LWt} {l way : Nat} {x : Int32} (h1 : 1 ≤ T.1 0) (h2 : T.1 0 ≤ 8) : ∃ a : Nat, a < T.1 0 ∧ n_a2 T LW l way x = nI a := by
  unfold n_a2
  have e : nI (T.1 0) - nI 1 = nI (T.1 0 - 1) := pk_sub h1
  rw [e]
  generalize n_a1 T LW l way x = y
  by_cases hy : y < nI (T.1 0 - 1)
  · rw [if_pos hy]
    by_cases h0 : nI 0 < y
    · rw [if_pos h0]
      obtain ⟨j, hj, ej⟩ := nI_of (Int32.not_lt.mpr (Int32.le_of_lt (show (0 : Int32) < y from h0)))
      refine ⟨j, ?_, ej⟩
      rw [ej] at hy
      have := (nI_ltI hj (by omega)).mp hy
      omega
    · rw [if_neg h0]
      exact ⟨0, by omega, rfl⟩
  · rw [if_neg hy]
    by_cases h0 : nI 0 < nI (T.1 0 - 1)
    · rw [if_pos h0]
      exact ⟨T.1 0 - 1, by omega, rfl⟩
    · rw [if_neg h0]
      exact ⟨0, by omega, rfl⟩
theorem c_sortAt1 {h : am_H} {Q : Option Value → am_H → Prop} {p : Nat} {T : Sd} (hS : SA h p T) {a : Nat} {y : Int32} (ha : a < 8) (q1 : ∀ c : Nat, y = nI c → c < 4 → Q (some (.int (T.2 0 (c * 8 + a)))) h) (q0 : (y < 0 ∨ nI 4 ≤ y) → Q (some (.int (-1))) h) : AC am_P 0 0 94 [.ref p, .int (nI a), .int y] h Q := by
  refine c_X7_sortAt hS (fun a' c ea ec h1 h2 => ?_) (fun z => ?_)
  · have e := (nI_eq (a := a) (b := a') (by omega) (by omega)).mp ea
    subst e
    exact q1 c ec h2
  · exact q0 (z.elim (fun z => absurd z (n_neg a (by omega))) (fun z => z.elim (fun z => absurd z (n_nle ha (by decide))) id))
theorem n_land_w {T : Sd} {LW : LWt} {l way : Nat} {x : Int32} (hw : way = 24) : n_land T LW l way x = if n_car T LW (l / 3) (x + nI (T.1 5)) then -1 else nI l := by
  unfold n_land
  rw [if_pos hw]
/-- what comes of a kick, case by case *-/
theorem n_land_k {T : Sd} {LW : LWt} {l way a c : Nat} {x : Int32} (hw : ¬ way = 24) (hA : n_a2 T LW l way x = nI a) (hC : n_c1 T LW l way x = nI c) (ha : a < 8) (hc : c < 4) : n_land T LW l way x = if T.2 0 (c * 8 + a) = nI 5 then nI (l / 3 * 3 + n_tn T l way) else if T.2 0 (c * 8 + a) = -1 ∨ T.2 0 (c * 8 + a) = nI 4 then -1 else if ¬ T.2 0 (c * 8 + a) = nI 6 ∧ n_car T LW (c * 8 + a) (x + nI (T.1 5)) then -1 else nI ((c * 8 + a) * 3 + n_tn T l way) := by
  unfold n_land n_lnd
  rw [if_neg hw, hA, hC, if_neg (fun z => z.elim (n_neg c (by omega)) (n_nle hc (by decide))), nI_clamp (show c < 2147483648 by omega), nI_clamp (show a < 2147483648 by omega)]
theorem n_land_o {T : Sd} {LW : LWt} {l way : Nat} {x : Int32} (hw : ¬ way = 24) (hC : n_c1 T LW l way x < 0 ∨ nI 4 ≤ n_c1 T LW l way x) : n_land T LW l way x = -1 := by
  unfold n_land n_lnd
  rw [if_neg hw, if_pos hC]
theorem c_X7_landing {h : am_H} {Q : Option Value → am_H → Prop} {p : Nat} {T : Sd} {LW : LWt} (h8 : 8 ≤ p) (hS : SA h p T) (hX : SX h p) (hW : LWs T LW) {l way : Nat} {x : Int32} (hl : l < 96) (hw : way ≤ 24) (hlen : 1 ≤ T.1 0 ∧ T.1 0 ≤ 8) (hfc : 1 ≤ T.1 2 ∧ T.1 2 ≤ 3) (htn : way < 24 → ∃ tw : Nat, tw < 10000 ∧ T.2 5 way = nI tw) (q : ∀ h1, FX p h h1 → Q (some (.int (n_land T LW l way x))) h1) : AC am_P 3 70 104 [.ref p, .int (nI l), .int (nI way), .int x] h Q := by
  refine AC.of (ls := [_, _, _, _, _, _, _, _, _, _, _]) rfl ?_
  have hS0 := hS
  have hX0 := hX
  obtain ⟨s0, s1, s2, s3, s4, s5, s6, ⟨w, s7⟩, s8, s9, s13, s14⟩ := hS
  obtain ⟨⟨f, hf⟩, hk0⟩ := hX
  refine aw rfl rfl ?_
  refine aw_c (v := nI 3) rfl (by decide) ?_
  refine aw_divn rfl (by omega) (by omega) (by omega) ?_
  refine aw_ist (ls' := [_, _, _, _, _, _, _, _, _, _, _]) rfl rfl ?_
  refine aw rfl rfl ?_
  refine aw_c (v := nI 24) rfl (by decide) ?_
  refine aw_inen rfl (fun c8 => ?_) (fun c8 => ?_)
  · have hw24 : ¬ way = 24 := by omega
    obtain ⟨tw, htw, etw⟩ := htn (by omega)
    refine aw rfl rfl ?_
    refine aw_ltn rfl ?_
    refine aw rfl rfl ?_
    refine aw_c (v := nI 24) rfl (by decide) ?_
    refine aw_igen rfl (fun c39 => by omega) (fun c39 => ?_)
    refine aw rfl rfl ?_
    refine aw_getf rfl (by repeat first | assumption | exact hg_eq | refine hg_ne (by first | assumption | omega) ?_) rfl ?_
    refine aw_c (v := nI 1) rfl (by decide) ?_
    refine aw_igen rfl (fun c47 => ?_) (fun c47 => by omega)
    refine aw rfl rfl ?_
    refine aw_c (v := nI 3) rfl (by decide) ?_
    refine aw_remn rfl (by omega) (by omega) (by omega) ?_
    refine aw_ist (ls' := [_, _, _, _, _, _, _, _, _, _, _]) rfl rfl ?_
    refine aw rfl rfl ?_
    refine aw_getf rfl (by repeat first | assumption | exact hg_eq | refine hg_ne (by first | assumption | omega) ?_) rfl ?_
    refine aw rfl rfl ?_
    refine aw_cs (d1 := 0) (L1 := 0) rfl rfl (by decide) (by decide) (Nat.le_of_ble_eq_true rfl) (c_X10_alongOf (by omega) ?_)
    refine aw rfl rfl ?_
    refine aw_cs (d1 := 0) (L1 := 0) rfl rfl (by decide) (by decide) (Nat.le_of_ble_eq_true rfl) (c_X10_acrossOf (by omega) ?_)
    refine aw rfl rfl ?_
    refine aw rfl rfl ?_
    refine aw rfl rfl ?_
    refine aw_cv (d1 := 0) (L1 := 0) rfl rfl (by repeat first | assumption | exact hg_eq | refine hg_ne (by first | assumption | omega) ?_) rfl rfl (by decide) (by decide) (Nat.le_of_ble_eq_true rfl) (c_X7_sortOf hS0 (by omega) ?_)
    refine aw_cv (d1 := 0) (L1 := 0) rfl rfl (by repeat first | assumption | exact hg_eq | refine hg_ne (by first | assumption | omega) ?_) rfl rfl (by decide) (by decide) (Nat.le_of_ble_eq_true rfl) (c_X1_setWhere h8 s7 hf ?_)
    refine aw rfl rfl ?_
    refine aw_getf rfl (by repeat first | assumption | exact hg_eq | refine hg_ne (by first | assumption | omega) ?_) rfl ?_
    refine aw rfl rfl ?_
    refine aw_c (v := nI 6) rfl (by decide) ?_
    refine aw_divn rfl (by omega) (by omega) (by omega) ?_
    refine aw rfl rfl ?_
    refine aw_getf rfl (by repeat first | assumption | exact hg_eq | refine hg_ne (by first | assumption | omega) ?_) rfl ?_
    refine aw rfl rfl ?_
    refine aw_iald rfl (by repeat first | assumption | exact hg_eq | refine hg_ne (by first | assumption | omega) ?_) rfl (by omega) (by decide) ?_
    refine aw rfl rfl ?_
    refine aw_cv (d1 := 0) (L1 := 0) rfl rfl (by repeat first | assumption | exact hg_eq | refine hg_ne (by first | assumption | omega) ?_) rfl rfl (by decide) (by decide) (Nat.le_of_ble_eq_true rfl) (c_X1_setHow h8 (by repeat first | assumption | exact hg_eq | refine hg_ne (by first | assumption | omega) ?_) (by repeat first | assumption | exact hg_eq | refine hg_ne (by first | assumption | omega) ?_) ?_)
    rw [am_up_up]
    refine aw rfl rfl ?_
    refine aw_cs (d1 := 0) (L1 := 0) rfl rfl (by decide) (by decide) (Nat.le_of_ble_eq_true rfl) (c_X10_alongOf (by omega) ?_)
    refine aw rfl rfl ?_
    refine aw_getf rfl (by repeat first | assumption | exact hg_eq | refine hg_ne (by first | assumption | omega) ?_) rfl ?_
    refine aw rfl rfl ?_
    refine aw_iald rfl (by repeat first | assumption | exact hg_eq | refine hg_ne (by first | assumption | omega) ?_) rfl (by omega) (by decide) ?_
    refine aw rfl rfl ?_
    refine aw rfl rfl ?_
    refine aw_getf rfl (by repeat first | assumption | exact hg_eq | refine hg_ne (by first | assumption | omega) ?_) rfl ?_
    refine aw_c (v := nI 1) rfl (by decide) ?_
    refine aw_cv (d1 := 1) (L1 := 22) rfl rfl (by repeat first | assumption | exact hg_eq | refine hg_ne (by first | assumption | omega) ?_) rfl rfl (by decide) (by decide) (Nat.le_of_ble_eq_true rfl) (c_val h8 (hS0.upd (by omega) (by omega) (by omega)) (by repeat first | assumption | exact hg_eq | refine hg_ne (by first | assumption | omega) ?_) (by obtain ⟨g, hg⟩ := hk0; exact ⟨g, hg_ne (by omega) hg⟩) hW (by decide) (fun sk => ?_))
    refine aw_c (v := nI 4) rfl (by decide) ?_
    refine aw_cs (d1 := 1) (L1 := 19) rfl rfl (by decide) (by decide) (Nat.le_of_ble_eq_true rfl) (c_X10_held ?_)
    refine aw rfl rfl ?_
    refine aw_ist (ls' := [_, _, _, _, _, _, _, _, _, _, _]) rfl rfl ?_
    refine aw rfl rfl ?_
    refine aw_cs (d1 := 0) (L1 := 0) rfl rfl (by decide) (by decide) (Nat.le_of_ble_eq_true rfl) (c_X10_acrossOf (by omega) ?_)
    refine aw rfl rfl ?_
    refine aw_getf rfl (by repeat first | assumption | exact hg_eq | refine hg_ne (by first | assumption | omega) ?_) rfl ?_
    refine aw rfl rfl ?_
    refine aw_iald rfl (by repeat first | assumption | exact hg_eq | refine hg_ne (by first | assumption | omega) ?_) rfl (by omega) (by decide) ?_
    refine aw rfl rfl ?_
    refine aw rfl rfl ?_
    refine aw_getf rfl (by repeat first | assumption | exact hg_eq | refine hg_ne (by first | assumption | omega) ?_) rfl ?_
    refine aw_c (v := nI 0) rfl (by decide) ?_
    refine aw_cv (d1 := 1) (L1 := 22) rfl rfl (by repeat first | assumption | exact hg_eq | refine hg_ne (by first | assumption | omega) ?_) rfl rfl (by decide) (by decide) (Nat.le_of_ble_eq_true rfl) (c_val h8 ((hS0.upd (by omega) (by omega) (by omega)).upd (by omega) (by omega) (by omega)) (by repeat first | assumption | exact hg_eq | refine hg_ne (by first | assumption | omega) ?_) ⟨_, hg_eq⟩ hW (by decide) (fun sk2 => ?_))
    refine aw_c (v := nI 2) rfl (by decide) ?_
    refine aw_cs (d1 := 1) (L1 := 19) rfl rfl (by decide) (by decide) (Nat.le_of_ble_eq_true rfl) (c_X10_held ?_)
    rw [am_up_up]
    refine aw rfl rfl ?_
    refine aw_ist (ls' := [_, _, _, _, _, _, _, _, _, _, _]) rfl rfl ?_
    refine aw rfl rfl ?_
    refine aw rfl rfl ?_
    refine aw_getf rfl (by repeat first | assumption | exact hg_eq | refine hg_ne (by first | assumption | omega) ?_) rfl ?_
    refine aw rfl rfl ?_
    refine aw_iald rfl (by repeat first | assumption | exact hg_eq | refine hg_ne (by first | assumption | omega) ?_) rfl (by omega) (by decide) ?_
    rw [etw]
    refine aw_addn rfl ?_
    refine aw rfl rfl ?_
    refine aw_getf rfl (by repeat first | assumption | exact hg_eq | refine hg_ne (by first | assumption | omega) ?_) rfl ?_
    refine aw_remn rfl (by omega) (by omega) (by omega) ?_
    refine aw_ist (ls' := [_, _, _, _, _, _, _, _, _, _, _]) rfl rfl ?_
    refine aw_c (v := nI 0) rfl (by decide) ?_
    refine aw rfl rfl ?_
    refine aw_getf rfl (by repeat first | assumption | exact hg_eq | refine hg_ne (by first | assumption | omega) ?_) rfl ?_
    refine aw_c (v := nI 1) rfl (by decide) ?_
    refine aw rfl rfl ?_
    refine aw rfl rfl ?_
    refine aw rfl rfl ?_
    refine aw rfl rfl ?_
    refine aw_ist (ls' := [_, _, _, _, _, _, _, _, _, _, _]) rfl rfl ?_
    show AW am_P 3 70 104 187 [_, _, _, _, _, _, some (.int (n_a2 T LW l way x)), some (.int (n_c1 T LW l way x)), _, _, _] [] _ Q
    obtain ⟨a, ha, ea⟩ := n_a2_in (T := T) (LW := LW) (l := l) (way := way) (x := x) hlen.1 hlen.2
    have etn : n_tn T l way = (l % 3 + tw) % T.1 2 := by unfold n_tn; rw [etw, nI_clamp (by omega)]
    generalize hA2 : n_a2 T LW l way x = A2 at ea ⊢
    generalize hC1 : n_c1 T LW l way x = C1
    subst ea
    rw [← etn]
    refine aw rfl rfl ?_
    refine aw rfl rfl ?_
    refine aw rfl rfl ?_
    refine aw_cv (d1 := 0) (L1 := 0) rfl rfl (by repeat first | assumption | exact hg_eq | refine hg_ne (by first | assumption | omega) ?_) rfl rfl (by decide) (by decide) (Nat.le_of_ble_eq_true rfl) (c_sortAt1 ((hS0.upd (by omega) (by omega) (by omega)).upd (by omega) (by omega) (by omega)) (by omega) (fun c ec hc => ?_) (fun z => ?_))
    · try subst ec
      refine aw_ist (ls' := [_, _, _, _, _, _, _, _, _, _, _]) rfl rfl ?_
      refine aw rfl rfl ?_
      refine aw_c (v := nI 5) rfl (by decide) ?_
      refine aw_ine rfl (fun c200 => ?_) (fun c200 => ?_)
      · refine aw rfl rfl ?_
        refine aw_c (v := -1) rfl (by decide) ?_
        refine aw_ieq rfl (fun c214 => ?_) (fun c214 => ?_)
        · refine aw_c (v := -1) rfl (by decide) ?_
          exact aw_iret rfl rfl (Eq.mp (congrArg (fun v => Q (some (.int v)) _) (by rw [n_land_k hw24 hA2 hC1 (by omega) hc, if_neg c200, if_pos (Or.inl c214)])) (q _ ⟨_, _, rfl⟩))
        · refine aw rfl rfl ?_
          refine aw_c (v := nI 4) rfl (by decide) ?_
          refine aw_ine rfl (fun c220 => ?_) (fun c220 => ?_)
          · refine aw rfl rfl ?_
            refine aw rfl rfl ?_
            refine aw_cs (d1 := 0) (L1 := 0) rfl rfl (by decide) (by decide) (Nat.le_of_ble_eq_true rfl) (c_X10_squareOf ?_)
            refine aw_ist (ls' := [_, _, _, _, _, _, _, _, _, _, _]) rfl rfl ?_
            refine aw rfl rfl ?_
            refine aw_c (v := nI 6) rfl (by decide) ?_
            refine aw_ieq rfl (fun c238 => ?_) (fun c238 => ?_)
            · refine aw rfl rfl ?_
              refine aw rfl rfl ?_
              refine aw_cs (d1 := 0) (L1 := 0) rfl rfl (by decide) (by decide) (Nat.le_of_ble_eq_true rfl) (c_X10_lieOf ?_)
              exact aw_iret rfl rfl (Eq.mp (congrArg (fun v => Q (some (.int v)) _) (by rw [n_land_k hw24 hA2 hC1 (by omega) hc, if_neg c200, if_neg (fun z => z.elim c214 c220), if_neg (fun z => z.1 c238)])) (q _ ⟨_, _, rfl⟩))
            · refine aw rfl rfl ?_
              refine aw rfl rfl ?_
              refine aw rfl rfl ?_
              refine aw rfl rfl ?_
              refine aw_getf rfl (by repeat first | assumption | exact hg_eq | refine hg_ne (by first | assumption | omega) ?_) rfl ?_
              refine aw rfl rfl ?_
              refine aw_cv (d1 := 2) (L1 := 48) rfl rfl (by repeat first | assumption | exact hg_eq | refine hg_ne (by first | assumption | omega) ?_) rfl rfl (by decide) (by decide) (Nat.le_of_ble_eq_true rfl) (c_X7_carsCome h8 ((hS0.upd (by omega) (by omega) (by omega)).upd (by omega) (by omega) (by omega)) ⟨⟨_, hg_ne (by omega) hg_eq⟩, ⟨_, hg_eq⟩⟩ hW (by omega) (fun h2 fx g => ?_) (fun h2 fx g => ?_))
              · refine aw_eq rfl (fun c => absurd c (by decide)) (fun _ => ?_)
                refine aw_c (v := -1) rfl (by decide) ?_
                exact aw_iret rfl rfl (Eq.mp (congrArg (fun v => Q (some (.int v)) _) (by rw [n_land_k hw24 hA2 hC1 (by omega) hc, if_neg c200, if_neg (fun z => z.elim c214 c220), if_pos ⟨c238, g⟩])) (q _ (FX.trans ⟨_, _, rfl⟩ fx)))
              · refine aw_eq rfl (fun _ => ?_) (fun c => absurd (by decide) c)
                refine aw rfl rfl ?_
                refine aw rfl rfl ?_
                refine aw_cs (d1 := 0) (L1 := 0) rfl rfl (by decide) (by decide) (Nat.le_of_ble_eq_true rfl) (c_X10_lieOf ?_)
                exact aw_iret rfl rfl (Eq.mp (congrArg (fun v => Q (some (.int v)) _) (by rw [n_land_k hw24 hA2 hC1 (by omega) hc, if_neg c200, if_neg (fun z => z.elim c214 c220), if_neg (fun z => g z.2)])) (q _ (FX.trans ⟨_, _, rfl⟩ fx)))
          · refine aw_c (v := -1) rfl (by decide) ?_
            exact aw_iret rfl rfl (Eq.mp (congrArg (fun v => Q (some (.int v)) _) (by rw [n_land_k hw24 hA2 hC1 (by omega) hc, if_neg c200, if_pos (Or.inr c220)])) (q _ ⟨_, _, rfl⟩))
      · refine aw rfl rfl ?_
        refine aw rfl rfl ?_
        refine aw_cs (d1 := 0) (L1 := 0) rfl rfl (by decide) (by decide) (Nat.le_of_ble_eq_true rfl) (c_X10_lieOf ?_)
        exact aw_iret rfl rfl (Eq.mp (congrArg (fun v => Q (some (.int v)) _) (by rw [n_land_k hw24 hA2 hC1 (by omega) hc, if_pos c200])) (q _ ⟨_, _, rfl⟩))
    · try subst ec
      refine aw_ist (ls' := [_, _, _, _, _, _, _, _, _, _, _]) rfl rfl ?_
      refine aw rfl rfl ?_
      refine aw_c (v := nI 5) rfl (by decide) ?_
      refine aw_ine rfl (fun _ => ?_) (fun c => absurd c (by decide))
      refine aw rfl rfl ?_
      refine aw_c (v := -1) rfl (by decide) ?_
      refine aw_ieq rfl (fun _ => ?_) (fun c => absurd (by decide) c)
      refine aw_c (v := -1) rfl (by decide) ?_
      exact aw_iret rfl rfl (Eq.mp (congrArg (fun v => Q (some (.int v)) _) (n_land_o hw24 (hC1.symm ▸ z))) (q _ ⟨_, _, rfl⟩))
  · refine aw rfl rfl ?_
    refine aw rfl rfl ?_
    refine aw rfl rfl ?_
    refine aw rfl rfl ?_
    refine aw_getf rfl (by repeat first | assumption | exact hg_eq | refine hg_ne (by first | assumption | omega) ?_) rfl ?_
    refine aw rfl rfl ?_
    refine aw_cv (d1 := 2) (L1 := 48) rfl rfl (by repeat first | assumption | exact hg_eq | refine hg_ne (by first | assumption | omega) ?_) rfl rfl (by decide) (by decide) (Nat.le_of_ble_eq_true rfl) (c_X7_carsCome h8 hS0 hX0 hW (by omega) (fun h2 fx g => ?_) (fun h2 fx g => ?_))
    · refine aw_eq rfl (fun c => absurd c (by decide)) (fun _ => ?_)
      refine aw_c (v := -1) rfl (by decide) ?_
      refine aw rfl rfl ?_
      exact aw_iret rfl rfl (Eq.mp (congrArg (fun v => Q (some (.int v)) _) (by rw [n_land_w c8, if_pos g])) (q _ fx))
    · refine aw_eq rfl (fun _ => ?_) (fun c => absurd (by decide) c)
      refine aw rfl rfl ?_
      exact aw_iret rfl rfl (Eq.mp (congrArg (fun v => Q (some (.int v)) _) (by rw [n_land_w c8, if_neg g])) (q _ fx))
