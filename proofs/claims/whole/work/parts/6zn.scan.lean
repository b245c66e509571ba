/-! ===== the class: scan, isWhole, judge ===== -/
def aS (x : Nat → Int32) (n : Nat) : Nat → Nat
  | 0 => 0
  | t + 1 => lE x n (ps9 x n t)
theorem ps_a {x : Nat → Int32} {n : Nat} : ∀ t, ps9 x n t = run blB x n (aS x n t)
  | 0 => rfl
  | _ + 1 => rfl
theorem aS_hi {x : Nat → Int32} {n : Nat} : ∀ t, aS x n t ≤ n
  | 0 => Nat.zero_le _
  | _ + 1 => lE_hi (ps_hi _)
theorem n_mx0 {n : Nat} (h : n < 2147483648) : (if nI 0 < nI n then nI n else nI 0) = nI n := by
  by_cases h0 : n = 0
  · subst h0; rfl
  · exact if_pos (nI_lt (by omega) h)
def KY3 (K K' : Ck) : Prop := (∀ m, m < 12 ∨ 15 < m → K'.1 m = K.1 m) ∧ (∀ j, ¬ (j = 43 ∨ j = 44 ∨ j = 45) → K'.2.1 j = K.2.1 j) ∧ K'.2.2 = K.2.2
theorem KY3.tr {K K1 K2 : Ck} (h : KY3 K K1) (h1 : KY3 K1 K2) : KY3 K K2 := ⟨fun n hn => (h1.1 n hn).trans (h.1 n hn), fun j hj => (h1.2.1 j hj).trans (h.2.1 j hj), h1.2.2.trans h.2.2⟩
theorem KX.k3 {K K' : Ck} (h : KX K K') : KY3 K K' := ⟨fun n hn => h.1 n (by omega), fun j hj => by rw [h.2], by rw [h.2]⟩
section C1
variable {z : Bool} {g : am_H} {T : Sd} {u : Ua} {X : Sd × Ua} {K : Ck} {rf : Nat → Nat}
variable {n : Nat}
theorem c_X9_scan {Q : Option Value → am_H → Prop} (hg : STr g) (hn : n ≤ 2000) (hB : ∀ j, j < n → K.2.1 9 j ≤ 127) (q : ∀ K', (∀ i, i ≤ 400 → TKR (tkS (K.2.1 9) n) i (K'.2.1 43 i) (K'.2.1 44 i) (K'.2.1 45 i)) → K'.1 12 = nI n → KY3 K K' → Q none (cz z g T u X K' rf)) : AC am_P 7 170 117 [.ref 42, .int (nI n)] (cz z g T u X K rf) Q := by
  refine AC.of (ls := [_, _, _]) rfl ?_
  refine aw rfl rfl ?_
  refine aw_c (v := nI 0) rfl (by decide) ?_
  refine aw rfl rfl ?_
  refine aw rfl rfl ?_
  refine aw_getf rfl zg_42 rfl ?_
  refine aw_alen rfl zg_9 rfl ?_
  refine aw rfl rfl ?_
  rw [if_neg (show ¬ nI 2000 < nI n from fun w => absurd ((nI_ltI (by decide) (by omega)).mp w) (by omega))]
  refine aw rfl rfl ?_
  rw [n_mx0 (by omega)]
  refine aw_putfU rfl zg_42 rfl rfl (by decide) zp_42_4 ?_
  refine aw rfl rfl ?_
  refine aw_c (v := nI 0) rfl (by decide) ?_
  refine aw_putfU rfl zg_42 rfl rfl (by decide) zp_42_5 ?_
  refine aw_c (v := nI 0) rfl (by decide) ?_
  refine aw_ist (ls' := [_, _, _]) rfl rfl ?_
  refine aw_loop (α := Ck) (ll := fun i y => [some (.ref 42), some (.int (nI n)), some (.int (nI i))]) (hh := fun i y => (cz z g T u X y rf)) (I := fun i y => y.1 12 = nI n ∧ y.1 13 = nI (aS (K.2.1 9) n i) ∧ KY3 K y ∧ (∀ j, j < i → TKR (tkS (K.2.1 9) n) j (y.2.1 43 j) (y.2.1 44 j) (y.2.1 45 j))) (N := 401) (fun i y hi hI ih => ?_) (fun y hI => ?_) 0 _ (Nat.zero_le _) ⟨rfl, rfl, ⟨fun m hm => ?_, fun _ _ => rfl, rfl⟩, fun j hj => absurd hj (Nat.not_lt_zero _)⟩
  · skip
    obtain ⟨k12, k13, k3, k4⟩ := hI
    have hx : y.2.1 9 = K.2.1 9 := k3.2.1 9 (by omega)
    refine aw rfl rfl ?_
    refine aw_c (v := nI 401) rfl (by decide) ?_
    refine aw_igen rfl (fun c28 => by omega) (fun c28 => ?_)
    refine aw rfl rfl ?_
    refine aw_cv (d1 := 1) (L1 := 20) rfl rfl zg_42 rfl rfl (by decide) (by decide) (Nat.le_of_ble_eq_true rfl) (c_X9_skipBlanks k12 hn k13 (aS_hi i) (fun K1 a1 a2 => ?_))
    refine aw rfl rfl ?_
    refine aw_getf rfl zg_42 rfl ?_
    refine aw rfl rfl ?_
    refine aw rfl rfl ?_
    refine aw_getfE rfl zg_42 rfl (congrArg Value.int a1) ?_
    refine aw_iastU rfl zg_44 rfl (by omega) (by decide) (by decide) zu_44 ?_
    refine aw rfl rfl ?_
    refine aw_cv (d1 := 6) (L1 := 150) rfl rfl zg_42 rfl rfl (by decide) (by decide) (Nat.le_of_ble_eq_true rfl) (c_X9_scanOne hg (show K1.1 12 = nI n by rw [a2.1 12 (by omega)]; exact k12) hn a1 (run_hi (aS_hi i)) (fun j hj => by show K1.2.1 9 j ≤ 127; rw [a2.2, hx]; exact hB j hj) (fun K2 b1 b2 b3 => ?_))
    refine aw rfl rfl ?_
    refine aw_getf rfl zg_42 rfl ?_
    refine aw rfl rfl ?_
    refine aw rfl rfl ?_
    refine aw_getf rfl zg_42 rfl ?_
    refine aw_iastU rfl zg_43 rfl (by omega) (by decide) (by decide) zu_43 ?_
    refine aw rfl rfl ?_
    refine aw_getf rfl zg_42 rfl ?_
    refine aw rfl rfl ?_
    refine aw rfl rfl ?_
    refine aw_getf rfl zg_42 rfl ?_
    refine aw_iastU rfl zg_45 rfl (by omega) (by decide) (by decide) zu_45 ?_
    refine aw_incn (c := 1) (ls' := [_, _, _]) rfl rfl (by decide) rfl ?_
    refine aw rfl rfl ?_
    have hx1 : K1.2.1 9 = K.2.1 9 := by rw [a2.2]; exact hx
    have hat : run blB (y.2.1 9) n (aS (K.2.1 9) n i) = ps9 (K.2.1 9) n i := by rw [hx, ← ps_a]
    refine ih _ ⟨?_, ?_, ?_, fun j hj => ?_⟩
    · show K2.1 12 = _
      rw [b3.1 12 (by omega)]
      show K1.1 12 = _
      rw [a2.1 12 (by omega)]
      exact k12
    · show K2.1 13 = nI (lE (K.2.1 9) n (ps9 (K.2.1 9) n i))
      rw [b1, hat]
      show nI (lE (K1.2.1 9) n _) = _
      rw [hx1]
    · refine (k3.tr a2.k3).tr ((show KY3 K1 (K1.1, va_up K1.2.1 44 _, K1.2.2) from ⟨fun _ _ => rfl, fun j hj => vu_ot (by omega), rfl⟩).tr (b3.k3.tr ⟨fun _ _ => rfl, fun j hj => ?_, rfl⟩))
      show va_up (va_up K2.2.1 43 _) 45 _ j = _
      rw [vu_ot (by omega), vu_ot (by omega)]
    · have e3 : K2.2 = (va_up K1.2.1 44 (upd (K1.2.1 44) i (nI (run blB (y.2.1 9) n (aS (K.2.1 9) n i)))), K1.2.2) := b3.2
      have e43 : K2.2.1 43 = K1.2.1 43 := by rw [e3]; rfl
      have e44 : K2.2.1 44 = upd (K1.2.1 44) i (nI (run blB (y.2.1 9) n (aS (K.2.1 9) n i))) := by rw [e3]; rfl
      have e45 : K2.2.1 45 = K1.2.1 45 := by rw [e3]; rfl
      show TKR _ j (upd (K2.2.1 43) i (K2.1 14) j) (K2.2.1 44 j) (upd (K2.2.1 45) i (K2.1 15) j)
      by_cases ej : j = i
      · subst ej
        rw [upd_at, upd_at, e44, upd_at, hat]
        refine tk_r hn ?_
        rw [hat] at b2
        have b2 : TKV (K1.2.1 9) n (ps9 (K.2.1 9) n j) (K2.1 14) (K2.1 15) := b2
        rw [hx1] at b2
        exact b2
      · rw [upd_ne ej, upd_ne ej, e44, upd_ne ej, e43, e45]
        have h9 := k4 j (by omega)
        rw [show K1.2.1 43 = y.2.1 43 by rw [a2.2], show K1.2.1 44 = y.2.1 44 by rw [a2.2], show K1.2.1 45 = y.2.1 45 by rw [a2.2]]
        exact h9
  · skip
    obtain ⟨k12, k13, k3, k4⟩ := hI
    have hx : y.2.1 9 = K.2.1 9 := k3.2.1 9 (by omega)
    refine aw rfl rfl ?_
    refine aw_c (v := nI 401) rfl (by decide) ?_
    refine aw_ige rfl (fun _ => ?_) (fun c => absurd (by decide) c)
    exact aw_vret rfl rfl (q y (fun i hi => k4 i (by omega)) k12 k3)
  · show va_up (va_up K.1 12 _) 13 _ m = _
    rw [vu_ot (by omega), vu_ot (by omega)]
theorem sa_z : SA (cz z g T u X K rf) (zq z) T := by cases z <;> first | exact sa_10 | exact sa_25
theorem c_isSpot6 {Q : Option Value → am_H → Prop} {v : Nat → Nat} (hv : ∀ i, i < 3 → T.2 6 i = nI (v i) ∧ v i ≤ 9) (hw : T.1 0 ≤ 8) (hr : T.1 1 ≤ 4) (hf : T.1 2 ≤ 3) (hs : ∀ a, a < 32 → (T.2 0 a = -1 ↔ ¬ (a % 8 < T.1 0 ∧ a / 8 < T.1 1))) (q1 : v 0 < T.1 0 ∧ v 1 < T.1 1 ∧ v 2 < T.1 2 ∧ ¬ T.2 0 (v 1 * 8 + v 0) = nI 4 ∧ ¬ T.2 0 (v 1 * 8 + v 0) = nI 5 → Q (some (.int (nI 1))) (cz z g T u X K rf)) (q0 : ¬ (v 0 < T.1 0 ∧ v 1 < T.1 1 ∧ v 2 < T.1 2 ∧ ¬ T.2 0 (v 1 * 8 + v 0) = nI 4 ∧ ¬ T.2 0 (v 1 * 8 + v 0) = nI 5) → Q (some (.int (nI 0))) (cz z g T u X K rf)) : AC am_P 2 43 93 [.ref (zq z), .ref (zq z + 13)] (cz z g T u X K rf) Q := by
  refine AC.of (ls := [_, _]) rfl ?_
  obtain ⟨e0, b0⟩ := hv 0 (by decide)
  obtain ⟨e1, b1⟩ := hv 1 (by decide)
  obtain ⟨e2, b2⟩ := hv 2 (by decide)
  refine aw rfl rfl ?_
  refine aw_alen rfl zs_13 rfl ?_
  refine aw_c (v := nI 3) rfl (by decide) ?_
  refine aw_ilt rfl (fun c => absurd c (by decide)) (fun _ => ?_)
  refine aw rfl rfl ?_
  refine aw_c (v := nI 2) rfl (by decide) ?_
  refine aw_ialdE rfl zs_13 rfl (by omega) (by decide) e2 ?_
  refine aw rfl rfl ?_
  refine aw_getf rfl zs_0 rfl ?_
  refine aw_iltn rfl (fun c13 => ?_) (fun c13 => ?_)
  · refine aw rfl rfl ?_
    refine aw rfl rfl ?_
    refine aw_c (v := nI 0) rfl (by decide) ?_
    refine aw_ialdE rfl zs_13 rfl (by omega) (by decide) e0 ?_
    refine aw rfl rfl ?_
    refine aw_c (v := nI 1) rfl (by decide) ?_
    refine aw_ialdE rfl zs_13 rfl (by omega) (by decide) e1 ?_
    refine aw_cv (d1 := 0) (L1 := 0) rfl rfl zs_0 rfl rfl (by decide) (by decide) (Nat.le_of_ble_eq_true rfl) (c_X7_sortAt sa_z (fun a c ea ec ha hc => ?_) (fun hno => ?_))
    · have ea := (nI_eq (by omega) (by omega)).mp ea
      have ec := (nI_eq (by omega) (by omega)).mp ec
      subst ea
      subst ec
      have hs9 := hs (v 1 * 8 + v 0) (by omega)
      rw [show (v 1 * 8 + v 0) % 8 = v 0 by omega, show (v 1 * 8 + v 0) / 8 = v 1 by omega] at hs9
      refine aw_c (v := -1) rfl (by decide) ?_
      refine aw_ieq rfl (fun c29 => ?_) (fun c29 => ?_)
      · refine aw_c (v := nI 0) rfl (by decide) ?_
        exact aw_iret rfl rfl (q0 (fun w => (hs9.mp c29) ⟨w.1, w.2.1⟩))
      · refine aw rfl rfl ?_
        refine aw rfl rfl ?_
        refine aw_c (v := nI 0) rfl (by decide) ?_
        refine aw_ialdE rfl zs_13 rfl (by omega) (by decide) e0 ?_
        refine aw rfl rfl ?_
        refine aw_c (v := nI 1) rfl (by decide) ?_
        refine aw_ialdE rfl zs_13 rfl (by omega) (by decide) e1 ?_
        refine aw_cs (d1 := 0) (L1 := 0) rfl rfl (by decide) (by decide) (Nat.le_of_ble_eq_true rfl) (c_X10_squareOf ?_)
        refine aw_cv (d1 := 1) (L1 := 21) rfl rfl zs_0 rfl rfl (by decide) (by decide) (Nat.le_of_ble_eq_true rfl) (c_X7_canLie sa_z (by omega) (fun a1 a2 a3 => ?_) (fun a0 => ?_))
        · refine aw_eq rfl (fun c => absurd c (by decide)) (fun _ => ?_)
          refine aw_c (v := nI 1) rfl (by decide) ?_
          refine aw rfl rfl ?_
          exact aw_iret rfl rfl (q1 ⟨by have := Decidable.of_not_not (fun y => c29 (hs9.mpr y)); omega, by have := Decidable.of_not_not (fun y => c29 (hs9.mpr y)); omega, by omega, a2, a3⟩)
        · refine aw_eq rfl (fun _ => ?_) (fun c => absurd (by decide) c)
          refine aw_c (v := nI 0) rfl (by decide) ?_
          exact aw_iret rfl rfl (q0 (fun w => a0.elim c29 (fun y => y.elim w.2.2.2.1 w.2.2.2.2)))
    · refine aw_c (v := -1) rfl (by decide) ?_
      refine aw_ieq rfl (fun _ => ?_) (fun c => absurd (by decide) c)
      refine aw_c (v := nI 0) rfl (by decide) ?_
      exact aw_iret rfl rfl (q0 (fun w => by have h8 : ¬ (v 0 < 8 ∧ v 1 < 4) := fun w8 => hno.elim (fun y => nI_pos (by omega) y) (fun y => y.elim (fun y => absurd ((nI_leI (by decide) (by omega)).mp y) (by omega)) (fun y => y.elim (fun y => nI_pos (by omega) y) (fun y => absurd ((nI_leI (by decide) (by omega)).mp y) (by omega)))); omega))
  · refine aw_c (v := nI 0) rfl (by decide) ?_
    exact aw_iret rfl rfl (q0 (fun w => by omega))
theorem c_isSpot7 {Q : Option Value → am_H → Prop} {v : Nat → Nat} (hv : ∀ i, i < 3 → T.2 7 i = nI (v i) ∧ v i ≤ 9) (hw : T.1 0 ≤ 8) (hr : T.1 1 ≤ 4) (hf : T.1 2 ≤ 3) (hs : ∀ a, a < 32 → (T.2 0 a = -1 ↔ ¬ (a % 8 < T.1 0 ∧ a / 8 < T.1 1))) (q1 : v 0 < T.1 0 ∧ v 1 < T.1 1 ∧ v 2 < T.1 2 ∧ ¬ T.2 0 (v 1 * 8 + v 0) = nI 4 ∧ ¬ T.2 0 (v 1 * 8 + v 0) = nI 5 → Q (some (.int (nI 1))) (cz z g T u X K rf)) (q0 : ¬ (v 0 < T.1 0 ∧ v 1 < T.1 1 ∧ v 2 < T.1 2 ∧ ¬ T.2 0 (v 1 * 8 + v 0) = nI 4 ∧ ¬ T.2 0 (v 1 * 8 + v 0) = nI 5) → Q (some (.int (nI 0))) (cz z g T u X K rf)) : AC am_P 2 43 93 [.ref (zq z), .ref (zq z + 14)] (cz z g T u X K rf) Q := by
  refine AC.of (ls := [_, _]) rfl ?_
  obtain ⟨e0, b0⟩ := hv 0 (by decide)
  obtain ⟨e1, b1⟩ := hv 1 (by decide)
  obtain ⟨e2, b2⟩ := hv 2 (by decide)
  refine aw rfl rfl ?_
  refine aw_alen rfl zs_14 rfl ?_
  refine aw_c (v := nI 3) rfl (by decide) ?_
  refine aw_ilt rfl (fun c => absurd c (by decide)) (fun _ => ?_)
  refine aw rfl rfl ?_
  refine aw_c (v := nI 2) rfl (by decide) ?_
  refine aw_ialdE rfl zs_14 rfl (by omega) (by decide) e2 ?_
  refine aw rfl rfl ?_
  refine aw_getf rfl zs_0 rfl ?_
  refine aw_iltn rfl (fun c13 => ?_) (fun c13 => ?_)
  · refine aw rfl rfl ?_
    refine aw rfl rfl ?_
    refine aw_c (v := nI 0) rfl (by decide) ?_
    refine aw_ialdE rfl zs_14 rfl (by omega) (by decide) e0 ?_
    refine aw rfl rfl ?_
    refine aw_c (v := nI 1) rfl (by decide) ?_
    refine aw_ialdE rfl zs_14 rfl (by omega) (by decide) e1 ?_
    refine aw_cv (d1 := 0) (L1 := 0) rfl rfl zs_0 rfl rfl (by decide) (by decide) (Nat.le_of_ble_eq_true rfl) (c_X7_sortAt sa_z (fun a c ea ec ha hc => ?_) (fun hno => ?_))
    · have ea := (nI_eq (by omega) (by omega)).mp ea
      have ec := (nI_eq (by omega) (by omega)).mp ec
      subst ea
      subst ec
      have hs9 := hs (v 1 * 8 + v 0) (by omega)
      rw [show (v 1 * 8 + v 0) % 8 = v 0 by omega, show (v 1 * 8 + v 0) / 8 = v 1 by omega] at hs9
      refine aw_c (v := -1) rfl (by decide) ?_
      refine aw_ieq rfl (fun c29 => ?_) (fun c29 => ?_)
      · refine aw_c (v := nI 0) rfl (by decide) ?_
        exact aw_iret rfl rfl (q0 (fun w => (hs9.mp c29) ⟨w.1, w.2.1⟩))
      · refine aw rfl rfl ?_
        refine aw rfl rfl ?_
        refine aw_c (v := nI 0) rfl (by decide) ?_
        refine aw_ialdE rfl zs_14 rfl (by omega) (by decide) e0 ?_
        refine aw rfl rfl ?_
        refine aw_c (v := nI 1) rfl (by decide) ?_
        refine aw_ialdE rfl zs_14 rfl (by omega) (by decide) e1 ?_
        refine aw_cs (d1 := 0) (L1 := 0) rfl rfl (by decide) (by decide) (Nat.le_of_ble_eq_true rfl) (c_X10_squareOf ?_)
        refine aw_cv (d1 := 1) (L1 := 21) rfl rfl zs_0 rfl rfl (by decide) (by decide) (Nat.le_of_ble_eq_true rfl) (c_X7_canLie sa_z (by omega) (fun a1 a2 a3 => ?_) (fun a0 => ?_))
        · refine aw_eq rfl (fun c => absurd c (by decide)) (fun _ => ?_)
          refine aw_c (v := nI 1) rfl (by decide) ?_
          refine aw rfl rfl ?_
          exact aw_iret rfl rfl (q1 ⟨by have := Decidable.of_not_not (fun y => c29 (hs9.mpr y)); omega, by have := Decidable.of_not_not (fun y => c29 (hs9.mpr y)); omega, by omega, a2, a3⟩)
        · refine aw_eq rfl (fun _ => ?_) (fun c => absurd (by decide) c)
          refine aw_c (v := nI 0) rfl (by decide) ?_
          exact aw_iret rfl rfl (q0 (fun w => a0.elim c29 (fun y => y.elim w.2.2.2.1 w.2.2.2.2)))
    · refine aw_c (v := -1) rfl (by decide) ?_
      refine aw_ieq rfl (fun _ => ?_) (fun c => absurd (by decide) c)
      refine aw_c (v := nI 0) rfl (by decide) ?_
      exact aw_iret rfl rfl (q0 (fun w => by have h8 : ¬ (v 0 < 8 ∧ v 1 < 4) := fun w8 => hno.elim (fun y => nI_pos (by omega) y) (fun y => y.elim (fun y => absurd ((nI_leI (by decide) (by omega)).mp y) (by omega)) (fun y => y.elim (fun y => nI_pos (by omega) y) (fun y => absurd ((nI_leI (by decide) (by omega)).mp y) (by omega)))); omega))
  · refine aw_c (v := nI 0) rfl (by decide) ?_
    exact aw_iret rfl rfl (q0 (fun w => by omega))
end C1
