/-! ===== the class: ways drawn, squares at home, outcomes; stones and the past ===== -/
theorem c_X7_drawnWay {h : am_H} {Q : Option Value → am_H → Prop} {p : Nat} {T : Sd} {S : Nat → Nat} (hS : SA h p T) (hG : GS T) {j : Nat} (hj : j < T.1 3) (q : Q (some (.int (nI (6 * j + drw T S j)))) h) : AC am_P 2 44 98 [.ref p, .int (nI j), .int (nI (S 4))] h Q := by
  refine AC.of (ls := [_, _, _, _, _, _, _, _]) rfl ?_
  have hS0 := hS
  have hG0 := hG
  obtain ⟨s0, s1, s2, s3, s4, s5, s6, ⟨w, s7⟩, s8, s9, s13, s14⟩ := hS
  obtain ⟨⟨g0, g0x⟩, ⟨g1, g1x⟩, ⟨g2, g2x⟩, ⟨g3, g3x⟩, g4, ⟨g5, g5x⟩, g6, gsq, goc, gwt, gsp, gfr⟩ := hG
  have hg := goc j hj
  have ho6 := hg.2.2.1
  have hl := lot_eq T S
  have hl6 := hl.1
  have hd := drw_spec (S := S) hG0 hj
  refine aw rfl rfl ?_
  refine aw rfl rfl ?_
  refine aw_cv (d1 := 1) (L1 := 22) rfl rfl (by repeat first | assumption | exact hg_eq | refine hg_ne (by first | assumption | omega) ?_) rfl rfl (by decide) (by decide) (Nat.le_of_ble_eq_true rfl) (c_X7_lotOfSix hS0 ?_)
  rw [hl.2]
  refine aw_ist (ls' := [_, _, _, _, _, _, _, _]) rfl rfl ?_
  refine aw_c (v := nI 0) rfl (by decide) ?_
  refine aw_ist (ls' := [_, _, _, _, _, _, _, _]) rfl rfl ?_
  refine aw rfl rfl ?_
  refine aw rfl rfl ?_
  refine aw_cv (d1 := 0) (L1 := 0) rfl rfl (by repeat first | assumption | exact hg_eq | refine hg_ne (by first | assumption | omega) ?_) rfl rfl (by decide) (by decide) (Nat.le_of_ble_eq_true rfl) (c_X7_firstWay hS0 (by omega) g3x ?_)
  rw [if_neg (by omega), Nat.mul_comm j 6]
  refine aw_ist (ls' := [_, _, _, _, _, _, _, _]) rfl rfl ?_
  refine aw rfl rfl ?_
  refine aw rfl rfl ?_
  refine aw_cv (d1 := 0) (L1 := 0) rfl rfl (by repeat first | assumption | exact hg_eq | refine hg_ne (by first | assumption | omega) ?_) rfl rfl (by decide) (by decide) (Nat.le_of_ble_eq_true rfl) (c_X7_endOfWays hS0 (by omega) g3x (fun _ => ?_) (fun z => absurd z (by omega)))
  rw [hg.1, nI_add, Nat.mul_comm j 6]
  refine aw_ist (ls' := [_, _, _, _, _, _, _, _]) rfl rfl ?_
  refine aw rfl rfl ?_
  refine aw_ist (ls' := [_, _, _, _, _, _, _, _]) rfl rfl ?_
  have key : ∀ m o, o + m = drw T S j → AW am_P 2 44 98 27 [some (.ref p), some (.int (nI j)), some (.int (nI (S 4))), some (.int (nI (lot T S))), some (.int (nI (sm (fun o => sx T (6 * j + o)) o))), some (.int (nI (6 * j))), some (.int (nI (6 * j + oc T j))), some (.int (nI (6 * j + o)))] [] h Q := by
    intro m
    induction m with
    | zero =>
      intro o ho
      have ho2 : o = drw T S j := by omega
      have hsm := sm_le (f := fun o => sx T (6 * j + o)) (g := fun _ => 6) (N := 1) (o + 1) (fun i hi => by have := (hg.2.2.2.2 i (by omega)).2.2; omega)
      have hs6 : sm (fun _ => 6) (o + 1) ≤ 36 := Nat.le_trans (sm_c6 _) (by omega)
      have e1 : sm (fun o => sx T (6 * j + o)) (o + 1) = sm (fun o => sx T (6 * j + o)) o + sx T (6 * j + o) := rfl
      subst ho2
      refine aw rfl rfl ?_
      refine aw rfl rfl ?_
      refine aw_igen rfl (fun c31 => by omega) (fun c31 => ?_)
      refine aw rfl rfl ?_
      refine aw rfl rfl ?_
      refine aw rfl rfl ?_
      refine aw_cv (d1 := 0) (L1 := 0) rfl rfl (by repeat first | assumption | exact hg_eq | refine hg_ne (by first | assumption | omega) ?_) rfl rfl (by decide) (by decide) (Nat.le_of_ble_eq_true rfl) (c_X7_sixthsOf hS0 (by omega) ?_)
      rw [(hg.2.2.2.2 (drw T S j) (by omega)).1]
      refine aw_addn rfl ?_
      refine aw_ist (ls' := [_, _, _, _, _, _, _, _]) rfl rfl ?_
      refine aw rfl rfl ?_
      refine aw rfl rfl ?_
      refine aw_ilen rfl (fun c48 => absurd hd.2.1 (by omega)) (fun c48 => ?_)
      refine aw rfl rfl ?_
      exact aw_iret rfl rfl q
    | succ m ih =>
      intro o ho
      have hsm := sm_le (f := fun o => sx T (6 * j + o)) (g := fun _ => 6) (N := 1) (o + 1) (fun i hi => by have := (hg.2.2.2.2 i (by omega)).2.2; omega)
      have hs6 : sm (fun _ => 6) (o + 1) ≤ 36 := Nat.le_trans (sm_c6 _) (by omega)
      have e1 : sm (fun o => sx T (6 * j + o)) (o + 1) = sm (fun o => sx T (6 * j + o)) o + sx T (6 * j + o) := rfl
      refine aw rfl rfl ?_
      refine aw rfl rfl ?_
      refine aw_igen rfl (fun c31 => by omega) (fun c31 => ?_)
      refine aw rfl rfl ?_
      refine aw rfl rfl ?_
      refine aw rfl rfl ?_
      refine aw_cv (d1 := 0) (L1 := 0) rfl rfl (by repeat first | assumption | exact hg_eq | refine hg_ne (by first | assumption | omega) ?_) rfl rfl (by decide) (by decide) (Nat.le_of_ble_eq_true rfl) (c_X7_sixthsOf hS0 (by omega) ?_)
      rw [(hg.2.2.2.2 o (by omega)).1]
      refine aw_addn rfl ?_
      refine aw_ist (ls' := [_, _, _, _, _, _, _, _]) rfl rfl ?_
      refine aw rfl rfl ?_
      refine aw rfl rfl ?_
      refine aw_ilen rfl (fun c48 => ?_) (fun c48 => absurd (hd.2.2 (o + 1) (by omega) (by omega)) (by omega))
      refine aw_incn (c := 1) (ls' := [_, _, _, _, _, _, _, _]) rfl rfl (by decide) rfl ?_
      refine aw rfl rfl ?_
      exact ih (o + 1) (by omega)
  have h9 := key (drw T S j) 0 (Nat.zero_add _)
  exact h9
theorem c_X7_homeSquares {h : am_H} {Q : Option Value → am_H → Prop} {p : Nat} {T : Sd} (hS : SA h p T) (q : Q (some (.int (nI (hmc T)))) h) : AC am_P 1 21 108 [.ref p] h Q := by
  refine AC.of (ls := [_, _, _]) rfl ?_
  have hS0 := hS
  obtain ⟨s0, s1, s2, s3, s4, s5, s6, ⟨w, s7⟩, s8, s9, s13, s14⟩ := hS
  refine aw_c (v := nI 0) rfl (by decide) ?_
  refine aw_ist (ls' := [_, _, _]) rfl rfl ?_
  refine aw_c (v := nI 0) rfl (by decide) ?_
  refine aw_ist (ls' := [_, _, _]) rfl rfl ?_
  refine aw_loop (α := Unit) (ll := fun i y => [some (.ref p), some (.int (nI (ctN (fun s => decide (T.2 0 s = nI 6)) i))), some (.int (nI i))]) (hh := fun i y => h) (I := fun i y => True) (N := 32) (fun i y hi hI ih => ?_) (fun y hI => ?_) 0 () (Nat.zero_le _) trivial
  · skip
    have hct := ctN_le (P := fun s => decide (T.2 0 s = nI 6)) i
    refine aw rfl rfl ?_
    refine aw_c (v := nI 32) rfl (by decide) ?_
    refine aw_igen rfl (fun c7 => by omega) (fun c7 => ?_)
    refine aw rfl rfl ?_
    refine aw rfl rfl ?_
    refine aw_cv (d1 := 0) (L1 := 0) rfl rfl (by repeat first | assumption | exact hg_eq | refine hg_ne (by first | assumption | omega) ?_) rfl rfl (by decide) (by decide) (Nat.le_of_ble_eq_true rfl) (c_X7_sortOf hS0 (by omega) ?_)
    refine aw_c (v := nI 6) rfl (by decide) ?_
    refine aw_ine rfl (fun c17 => ?_) (fun c17 => ?_)
    · refine aw_incn (c := 1) (ls' := [_, _, _]) rfl rfl (by decide) rfl ?_
      refine aw rfl rfl ?_
      have e9 : ctN (fun s => decide (T.2 0 s = nI 6)) (i + 1) = ctN (fun s => decide (T.2 0 s = nI 6)) i := by show ctN _ i + (bif decide _ then 1 else 0) = _; rw [decide_eq_false c17]; rfl
      have ih := ih () trivial
      rw [e9] at ih
      exact ih
    · refine aw_incn (c := 1) (ls' := [_, _, _]) rfl rfl (by decide) rfl ?_
      refine aw_incn (c := 1) (ls' := [_, _, _]) rfl rfl (by decide) rfl ?_
      refine aw rfl rfl ?_
      have e9 : ctN (fun s => decide (T.2 0 s = nI 6)) (i + 1) = ctN (fun s => decide (T.2 0 s = nI 6)) i + 1 := by show ctN _ i + (bif decide _ then 1 else 0) = _; rw [decide_eq_true c17]; rfl
      have ih := ih () trivial
      rw [e9] at ih
      exact ih
  · skip
    refine aw rfl rfl ?_
    refine aw_c (v := nI 32) rfl (by decide) ?_
    refine aw_ige rfl (fun _ => ?_) (fun c => absurd (by decide) c)
    refine aw rfl rfl ?_
    exact aw_iret rfl rfl q
theorem c_X7_allOutcomes {h : am_H} {Q : Option Value → am_H → Prop} {p : Nat} {T : Sd} (hS : SA h p T) (hG : GS T) (q : Q (some (.int (nI (sm (oc T) (T.1 3))))) h) : AC am_P 0 0 109 [.ref p] h Q := by
  refine AC.of (ls := [_, _, _]) rfl ?_
  obtain ⟨s0, s1, s2, s3, s4, s5, s6, ⟨w, s7⟩, s8, s9, s13, s14⟩ := hS
  obtain ⟨⟨g0, g0x⟩, ⟨g1, g1x⟩, ⟨g2, g2x⟩, ⟨g3, g3x⟩, g4, ⟨g5, g5x⟩, g6, gsq, goc, gwt, gsp, gfr⟩ := hG
  refine aw_c (v := nI 0) rfl (by decide) ?_
  refine aw_ist (ls' := [_, _, _]) rfl rfl ?_
  refine aw_c (v := nI 0) rfl (by decide) ?_
  refine aw_ist (ls' := [_, _, _]) rfl rfl ?_
  refine aw_loop (α := Unit) (ll := fun i y => [some (.ref p), some (.int (nI (sm (oc T) i))), some (.int (nI i))]) (hh := fun i y => h) (I := fun i y => True) (N := T.1 3) (fun i y hi hI ih => ?_) (fun y hI => ?_) 0 () (Nat.zero_le _) trivial
  · skip
    refine aw rfl rfl ?_
    refine aw rfl rfl ?_
    refine aw_getf rfl (by repeat first | assumption | exact hg_eq | refine hg_ne (by first | assumption | omega) ?_) rfl ?_
    refine aw_igen rfl (fun c9 => by omega) (fun c9 => ?_)
    refine aw rfl rfl ?_
    refine aw_c (v := nI 4) rfl (by decide) ?_
    refine aw_igen rfl (fun c14 => by omega) (fun c14 => ?_)
    refine aw rfl rfl ?_
    refine aw rfl rfl ?_
    refine aw_getf rfl (by repeat first | assumption | exact hg_eq | refine hg_ne (by first | assumption | omega) ?_) rfl ?_
    refine aw rfl rfl ?_
    refine aw_iald rfl (by repeat first | assumption | exact hg_eq | refine hg_ne (by first | assumption | omega) ?_) rfl (by omega) (by decide) ?_
    rw [(goc i hi).1]
    refine aw_addn rfl ?_
    refine aw_ist (ls' := [_, _, _]) rfl rfl ?_
    refine aw_incn (c := 1) (ls' := [_, _, _]) rfl rfl (by decide) rfl ?_
    refine aw rfl rfl ?_
    exact ih () trivial
  · skip
    refine aw rfl rfl ?_
    refine aw rfl rfl ?_
    refine aw_getf rfl (by repeat first | assumption | exact hg_eq | refine hg_ne (by first | assumption | omega) ?_) rfl ?_
    refine aw_igen rfl (fun c9 => ?_) (fun c9 => by omega)
    refine aw rfl rfl ?_
    exact aw_iret rfl rfl q
def cpf (f f2 : Nat → Int32) : Nat → Int32 := fun j => if j < 7 then f2 j else f j
theorem c_X6_copyFrom {h : am_H} {Q : Option Value → am_H → Prop} {a b : Nat} {f f2 : Nat → Int32} (ha : h.2.2 a = .inl (6, stf f)) (hb : h.2.2 b = .inl (6, stf f2)) (hab : b ≠ a) (h8 : 8 ≤ a) (q : Q none (am_up h a (.inl (6, stf (cpf f f2))))) : AC am_P 0 0 82 [.ref a, .ref b] h Q := by
  refine AC.of (ls := [_, _]) rfl ?_
  unfold stf at ha hb
  refine aw rfl rfl ?_
  refine aw rfl rfl ?_
  refine aw_getf rfl (by repeat first | assumption | exact hg_eq | refine hg_ne (by first | assumption | omega) ?_) rfl ?_
  refine aw_putf (fs' := [_, _, _, _, _, _, _, _]) rfl (by repeat first | assumption | exact hg_eq | refine hg_ne (by first | assumption | omega) ?_) rfl rfl rfl (by omega) ?_
  refine aw rfl rfl ?_
  refine aw rfl rfl ?_
  refine aw_getf rfl (by repeat first | assumption | exact hg_eq | refine hg_ne (by first | assumption | omega) ?_) rfl ?_
  refine aw_putf (fs' := [_, _, _, _, _, _, _, _]) rfl (by repeat first | assumption | exact hg_eq | refine hg_ne (by first | assumption | omega) ?_) rfl rfl rfl (by omega) ?_
  refine aw rfl rfl ?_
  refine aw rfl rfl ?_
  refine aw_getf rfl (by repeat first | assumption | exact hg_eq | refine hg_ne (by first | assumption | omega) ?_) rfl ?_
  refine aw_putf (fs' := [_, _, _, _, _, _, _, _]) rfl (by repeat first | assumption | exact hg_eq | refine hg_ne (by first | assumption | omega) ?_) rfl rfl rfl (by omega) ?_
  refine aw rfl rfl ?_
  refine aw rfl rfl ?_
  refine aw_getf rfl (by repeat first | assumption | exact hg_eq | refine hg_ne (by first | assumption | omega) ?_) rfl ?_
  refine aw_putf (fs' := [_, _, _, _, _, _, _, _]) rfl (by repeat first | assumption | exact hg_eq | refine hg_ne (by first | assumption | omega) ?_) rfl rfl rfl (by omega) ?_
  refine aw rfl rfl ?_
  refine aw rfl rfl ?_
  refine aw_getf rfl (by repeat first | assumption | exact hg_eq | refine hg_ne (by first | assumption | omega) ?_) rfl ?_
  refine aw_putf (fs' := [_, _, _, _, _, _, _, _]) rfl (by repeat first | assumption | exact hg_eq | refine hg_ne (by first | assumption | omega) ?_) rfl rfl rfl (by omega) ?_
  refine aw rfl rfl ?_
  refine aw rfl rfl ?_
  refine aw_getf rfl (by repeat first | assumption | exact hg_eq | refine hg_ne (by first | assumption | omega) ?_) rfl ?_
  refine aw_putf (fs' := [_, _, _, _, _, _, _, _]) rfl (by repeat first | assumption | exact hg_eq | refine hg_ne (by first | assumption | omega) ?_) rfl rfl rfl (by omega) ?_
  refine aw rfl rfl ?_
  refine aw rfl rfl ?_
  refine aw_getf rfl (by repeat first | assumption | exact hg_eq | refine hg_ne (by first | assumption | omega) ?_) rfl ?_
  refine aw_putf (fs' := [_, _, _, _, _, _, _, _]) rfl (by repeat first | assumption | exact hg_eq | refine hg_ne (by first | assumption | omega) ?_) rfl rfl rfl (by omega) ?_
  exact aw_vret rfl rfl (by rw [am_up_up, am_up_up, am_up_up, am_up_up, am_up_up, am_up_up]; exact q)
def SRl (f : Nat → Int32) (S : Nat → Nat) : Prop := ∀ j, j < 7 → f j = nI (S j)
theorem SRl.cp {f f2 : Nat → Int32} {S : Nat → Nat} (h : SRl f2 S) : SRl (cpf f f2) S := fun j hj => (if_pos hj).trans (h j hj)
def PSr (K : Ck) (u : Nat) (P : Nat → Nat → Nat) : Prop := u ≤ 50 ∧ K.1 17 = nI u ∧ ∃ nx : Nat, nx < 50 ∧ K.1 16 = nI nx ∧ ∀ i, i < u → SRl (K.2.2.1 (49 + (nx + 50 - u + i) % 50)) (P i)
/-- what a call may change: numbers, arrays, stones -/
def KF (K K' : Ck) (I J : List Nat) (R : Nat → Prop) : Prop := (∀ n, ¬ n ∈ I → K'.1 n = K.1 n) ∧ (∀ n, ¬ n ∈ J → K'.2.1 n = K.2.1 n) ∧ (∀ q, ¬ R q → K'.2.2.1 q = K.2.2.1 q) ∧ K'.2.2.2 = K.2.2.2
def rgP (q : Nat) : Prop := 49 ≤ q ∧ q < 99
section C1
variable {g : am_H} {T0 T1 T : Sd} {u0 u1 : Ua} {K : Ck} {rf : Nat → Nat} {p : Nat} {LW : LWt} {S : Nat → Nat} {u td nt cc : Nat} {P Z : Nat → Nat → Nat} {TD : Nat → Nat} {hd : Nat → Bool} {tp : Nat → Int32} {pc : Int32}
theorem cps_46 {j : Nat} {x : Int32} (hj : j < 8) : am_up (ch g T0 u0 T1 u1 K rf) 46 (.inl (6, List.set (stf (K.2.2.1 46)) j (.int x))) = ch g T0 u0 T1 u1 (K.1, K.2.1, va_up K.2.2.1 46 (va_up (K.2.2.1 46) j x), K.2.2.2) rf := by rw [stf_up j hj]; exact cw_46
theorem c_X6_lie {Q : Option Value → am_H → Prop} (h0 : SRl (K.2.2.1 46) S) (q : Q (some (.int (nI (S 0 * 3 + S 1)))) (ch g T0 u0 T1 u1 K rf)) : AC am_P 1 21 83 [.ref 46] (ch g T0 u0 T1 u1 K rf) Q := by
  refine AC.of (ls := [_]) rfl ?_
  refine aw rfl rfl ?_
  refine aw_getfE rfl cg_46 rfl (congrArg Value.int (h0 0 (by decide))) ?_
  refine aw rfl rfl ?_
  refine aw_getfE rfl cg_46 rfl (congrArg Value.int (h0 1 (by decide))) ?_
  refine aw_cs (d1 := 0) (L1 := 0) rfl rfl (by decide) (by decide) (Nat.le_of_ble_eq_true rfl) (c_X10_lieOf ?_)
  exact aw_iret rfl rfl q
theorem c_X2_clear {Q : Option Value → am_H → Prop} (q : Q none (ch g T0 u0 T1 u1 (va_up (va_up K.1 16 (nI 0)) 17 (nI 0), K.2) rf)) : AC am_P 0 0 29 [.ref 47] (ch g T0 u0 T1 u1 K rf) Q := by
  refine AC.of (ls := [_]) rfl ?_
  refine aw rfl rfl ?_
  refine aw_c (v := nI 0) rfl (by decide) ?_
  refine aw_putfU rfl cg_47 rfl rfl (by decide) cp_47_1 ?_
  refine aw rfl rfl ?_
  refine aw_c (v := nI 0) rfl (by decide) ?_
  refine aw_putfU rfl cg_47 rfl rfl (by decide) cp_47_2 ?_
  exact aw_vret rfl rfl q
theorem c_X2_keep {Q : Option Value → am_H → Prop} (hP : PSr K u P) (hS : SRl (K.2.2.1 46) S) (q : ∀ K', KF K K' [16, 17] [] rgP → PSr K' (psU u) (psP u P S) → Q none (ch g T0 u0 T1 u1 K' rf)) : AC am_P 1 21 30 [.ref 47, .ref 46] (ch g T0 u0 T1 u1 K rf) Q := by
  refine AC.of (ls := [_, _]) rfl ?_
  obtain ⟨u50, y17, nx, hn, y16, hr⟩ := hP
  refine aw rfl rfl ?_
  refine aw_getf rfl cg_47 rfl ?_
  refine aw rfl rfl ?_
  refine aw_getfE rfl cg_47 rfl (congrArg Value.int y16) ?_
  refine aw_aald rfl cg_48 rfl (by omega) (by decide) (if_pos (by omega)) ?_
  refine aw rfl rfl ?_
  refine aw_cv (d1 := 0) (L1 := 0) rfl rfl (cg_ring nx hn) rfl rfl (by decide) (by decide) (Nat.le_of_ble_eq_true rfl) (c_X6_copyFrom (cg_ring nx hn) cg_46 (by omega) (by omega) ?_)
  rw [cw_ring nx hn]
  refine aw rfl rfl ?_
  refine aw rfl rfl ?_
  refine aw_getfE rfl cg_47 rfl (congrArg Value.int y16) ?_
  refine aw_c (v := nI 1) rfl (by decide) ?_
  refine aw_addn rfl ?_
  refine aw_c (v := nI 50) rfl (by decide) ?_
  refine aw_remn rfl (by omega) (by omega) (by omega) ?_
  refine aw_putfU rfl cg_47 rfl rfl (by decide) cp_47_1 ?_
  refine aw rfl rfl ?_
  refine aw rfl rfl ?_
  refine aw_getfE rfl cg_47 rfl (congrArg Value.int y17) ?_
  refine aw_c (v := nI 1) rfl (by decide) ?_
  refine aw_addn rfl ?_
  refine aw_c (v := nI 50) rfl (by decide) ?_
  refine aw rfl rfl ?_
  refine aw_putfU rfl cg_47 rfl rfl (by decide) cp_47_2 ?_
  exact aw_vret rfl rfl (by
    refine q _ ⟨fun n hn9 => ?_, fun n _ => rfl, fun n h9 => vu_ot (fun z => h9 ⟨by omega, by omega⟩), rfl⟩ ⟨?_, ?_, (nx + 1) % 50, Nat.mod_lt _ (by decide), rfl, ?_⟩
    · show va_up (va_up K.1 16 _) 17 _ n = K.1 n
      rw [vu_ot (by simp at hn9; omega), vu_ot (by simp at hn9; omega)]
    · unfold psU; split <;> omega
    · show (if nI 50 < nI (u + 1) then nI 50 else nI (u + 1)) = _
      unfold psU
      by_cases e : u = 50
      · subst e; decide
      · rw [if_neg e, if_neg (nI_nlt (by omega) (by omega))]
    · intro i hi
      show SRl (va_up K.2.2.1 (49 + nx) _ (49 + ((nx + 1) % 50 + 50 - psU u + i) % 50)) _
      unfold psU psP at *
      by_cases e : u = 50
      · rw [if_pos e] at hi ⊢
        rw [if_pos e]
        by_cases e2 : i = 49
        · rw [if_pos e2, show 49 + ((nx + 1) % 50 + 50 - 50 + i) % 50 = 49 + nx by omega, vu_at]
          exact hS.cp
        · rw [if_neg e2, vu_ot (by omega)]
          have h9 := hr (i + 1) (by omega)
          rw [show (nx + 50 - u + (i + 1)) % 50 = ((nx + 1) % 50 + 50 - 50 + i) % 50 by omega] at h9
          exact h9
      · rw [if_neg e] at hi ⊢
        rw [if_neg e]
        by_cases e2 : i = u
        · rw [if_pos e2, show 49 + ((nx + 1) % 50 + 50 - (u + 1) + i) % 50 = 49 + nx by omega, vu_at]
          exact hS.cp
        · rw [if_neg e2, vu_ot (by omega)]
          have h9 := hr i (by omega)
          rw [show (nx + 50 - u + i) % 50 = ((nx + 1) % 50 + 50 - (u + 1) + i) % 50 by omega] at h9
          exact h9)
theorem c_X2_takeBack {Q : Option Value → am_H → Prop} (hP : PSr K u P) (q0 : u = 0 → Q (some (.int (nI 0))) (ch g T0 u0 T1 u1 K rf)) (q1 : ∀ K', 0 < u → KF K K' [16, 17] [] (fun q => q = 46) → PSr K' (u - 1) P → SRl (K'.2.2.1 46) (P (u - 1)) → Q (some (.int (nI 1))) (ch g T0 u0 T1 u1 K' rf)) : AC am_P 1 21 31 [.ref 47, .ref 46] (ch g T0 u0 T1 u1 K rf) Q := by
  refine AC.of (ls := [_, _]) rfl ?_
  obtain ⟨u50, y17, nx, hn, y16, hr⟩ := hP
  refine aw rfl rfl ?_
  refine aw_getfE rfl cg_47 rfl (congrArg Value.int y17) ?_
  refine aw_nen rfl (fun c4 => ?_) (fun c4 => ?_)
  · refine aw rfl rfl ?_
    refine aw rfl rfl ?_
    refine aw_getfE rfl cg_47 rfl (congrArg Value.int y16) ?_
    refine aw_c (v := nI 50) rfl (by decide) ?_
    refine aw_addn rfl ?_
    refine aw_c (v := nI 1) rfl (by decide) ?_
    refine aw_subn rfl (by omega) ?_
    refine aw_c (v := nI 50) rfl (by decide) ?_
    refine aw_remn rfl (by omega) (by omega) (by omega) ?_
    refine aw_putfU rfl cg_47 rfl rfl (by decide) cp_47_1 ?_
    refine aw rfl rfl ?_
    refine aw rfl rfl ?_
    refine aw_getfE rfl cg_47 rfl (congrArg Value.int (show _ = nI u from y17)) ?_
    refine aw_c (v := nI 1) rfl (by decide) ?_
    refine aw_subn rfl (by omega) ?_
    refine aw_putfU rfl cg_47 rfl rfl (by decide) cp_47_2 ?_
    refine aw rfl rfl ?_
    refine aw rfl rfl ?_
    refine aw_getf rfl cg_47 rfl ?_
    refine aw rfl rfl ?_
    refine aw_getfE rfl cg_47 rfl (congrArg Value.int (show _ = nI ((nx + 50 - 1) % 50) from rfl)) ?_
    refine aw_aald rfl cg_48 rfl (by omega) (by decide) (if_pos (by omega)) ?_
    refine aw_cv (d1 := 0) (L1 := 0) rfl rfl cg_46 rfl rfl (by decide) (by decide) (Nat.le_of_ble_eq_true rfl) (c_X6_copyFrom cg_46 (cg_ring ((nx + 50 - 1) % 50) (by omega)) (by omega) (by decide) ?_)
    rw [cw_46]
    refine aw_c (v := nI 1) rfl (by decide) ?_
    exact aw_iret rfl rfl (by
    have hu : 0 < u := by omega
    have h9 := hr (u - 1) (by omega)
    rw [show (nx + 50 - u + (u - 1)) % 50 = (nx + 50 - 1) % 50 by omega] at h9
    refine q1 _ hu ⟨fun n hn9 => ?_, fun n _ => rfl, fun n h9 => vu_ot h9, rfl⟩ ⟨by omega, rfl, (nx + 50 - 1) % 50, Nat.mod_lt _ (by decide), rfl, ?_⟩ ?_
    · show va_up (va_up K.1 16 _) 17 _ n = K.1 n
      rw [vu_ot (by simp at hn9; omega), vu_ot (by simp at hn9; omega)]
    · intro i hi
      show SRl (va_up K.2.2.1 46 _ (49 + ((nx + 50 - 1) % 50 + 50 - (u - 1) + i) % 50)) _
      rw [vu_ot (by omega)]
      have h8 := hr i (by omega)
      rw [show (nx + 50 - u + i) % 50 = ((nx + 50 - 1) % 50 + 50 - (u - 1) + i) % 50 by omega] at h8
      exact h8
    · show SRl (va_up K.2.2.1 46 _ 46) _
      rw [vu_at]
      exact h9.cp)
  · refine aw_c (v := nI 0) rfl (by decide) ?_
    exact aw_iret rfl rfl (q0 c4)
end C1
