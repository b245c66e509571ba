/-! ===== the class: isWhole, judge, readText ===== -/
theorem okR_at {l : List Nat} {a : Nat} (h : okR l = true) (ha : a < l.length) : ¬ soL (l.getD a 0) = -1 := by
  unfold okR at h
  rw [List.all_eq_true] at h
  have := h (l.getD a 0) (by rw [List.getD_eq_getElem?_getD, List.getElem?_eq_getElem ha]; exact List.getElem_mem ha)
  exact of_decide_eq_true this
section D1
variable {T : Sd} {D : Dt}
theorem CRw.sq (h : CRw T D True) : ∀ a, a < 32 → (T.2 0 a = -1 ↔ ¬ (a % 8 < T.1 0 ∧ a / 8 < T.1 1)) := by
  obtain ⟨a1, a2, a3, a4, a5⟩ := h
  obtain ⟨b1, b2⟩ := a5 trivial
  intro a ha
  rw [a1]
  constructor
  · intro e w
    obtain ⟨c1, c2, c3⟩ := b1 (a / 8) w.2
    have c4 := c3 (a % 8) w.1
    rw [show a / 8 * 8 + a % 8 = a by omega, e] at c4
    exact okR_at c2 (by omega) c4.symm
  · exact b2 a ha
theorem sp_iff (h : CRw T D True) (h2 : T.1 2 = D.2.2.1 2) (v : Nat → Nat) : (v 0 < T.1 0 ∧ v 1 < T.1 1 ∧ v 2 < T.1 2 ∧ ¬ T.2 0 (v 1 * 8 + v 0) = nI 4 ∧ ¬ T.2 0 (v 1 * 8 + v 0) = nI 5) ↔ spB9 D v = true := by
  obtain ⟨a1, a2, a3, a4, a5⟩ := h
  obtain ⟨b1, b2⟩ := a5 trivial
  unfold spB9
  rw [decide_eq_true_iff, a1, h2]
  by_cases hv : v 1 < D.1.length
  · have hne : ¬ D.1 = [] := fun e => by rw [e] at hv; exact absurd hv (Nat.not_lt_zero _)
    rw [← a4 hne]
    obtain ⟨c1, c2, c3⟩ := b1 (v 1) hv
    constructor
    · rintro ⟨w1, w2, w3, w4, w5⟩
      rw [c3 _ w1] at w4 w5
      exact ⟨w1, w2, w3, w4, w5⟩
    · rintro ⟨w1, w2, w3, w4, w5⟩
      rw [c3 _ w1]
      exact ⟨w1, w2, w3, w4, w5⟩
  · exact ⟨fun w => absurd w.2.1 hv, fun w => absurd w.2.1 hv⟩
end D1
section C1
variable {z : Bool} {g : am_H} {T : Sd} {u : Ua} {X : Sd × Ua} {K : Ck} {rf : Nat → Nat}
variable {Y : Tk} {s : Ps} {C : List Int32} {D : Dt} {n : Nat}
theorem c_X7_isWhole {Q : Option Value → am_H → Prop} (hD : CDt T u K C D True) (hG : gD D) (q1 : whB D = true → Q (some (.int (nI 1))) (cz z g T u X K rf)) (q0 : whB D = false → Q (some (.int (nI 0))) (cz z g T u X K rf)) : AC am_P 3 64 92 [.ref (zq z)] (cz z g T u X K rf) Q := by
  refine AC.of (ls := [_]) rfl ?_
  obtain ⟨dA, dB, dW, dR⟩ := hD
  obtain ⟨p1, p2, p3, p4, p5, p6⟩ := dA
  obtain ⟨g1, g2, g3, g4, g5, g6⟩ := hG
  have r1 := dR.1
  have r2 := dR.2.1
  have b1 := dB.1
  have b2 := dB.2.1
  have i6 := sp_iff dR p1 D.2.2.2.1
  have i7 := sp_iff dR p1 D.2.2.2.2.1
  refine aw rfl rfl ?_
  refine aw_getf rfl zs_0 rfl ?_
  refine aw_len rfl (fun c4 => ?_) (fun c4 => ?_)
  · refine aw_c (v := nI 0) rfl (by decide) ?_
    exact aw_iret rfl rfl (q0 (by unfold whB; rw [decide_eq_false (by omega)]; rfl))
  · refine aw rfl rfl ?_
    refine aw_getf rfl zs_0 rfl ?_
    refine aw_len rfl (fun c11 => ?_) (fun c11 => ?_)
    · refine aw_c (v := nI 0) rfl (by decide) ?_
      exact aw_iret rfl rfl (q0 (by unfold whB; rw [decide_eq_false (by omega)]; rfl))
    · refine aw rfl rfl ?_
      refine aw rfl rfl ?_
      refine aw_getf rfl zs_0 rfl ?_
      refine aw_cv (d1 := 2) (L1 := 43) rfl rfl zs_0 rfl rfl (by decide) (by decide) (Nat.le_of_ble_eq_true rfl) (c_isSpot6 (v := D.2.2.2.1) (fun i hi => ⟨p5 i hi, (g5 i hi).1⟩) dR.2.2.1 (by omega) (by omega) dR.sq (fun x6 => ?_) (fun x6 => ?_))
      · refine aw_eq rfl (fun c => absurd c (by decide)) (fun _ => ?_)
        refine aw rfl rfl ?_
        refine aw rfl rfl ?_
        refine aw_getf rfl zs_0 rfl ?_
        refine aw_cv (d1 := 2) (L1 := 43) rfl rfl zs_0 rfl rfl (by decide) (by decide) (Nat.le_of_ble_eq_true rfl) (c_isSpot7 (v := D.2.2.2.2.1) (fun i hi => ⟨p6 i hi, (g5 i hi).2⟩) dR.2.2.1 (by omega) (by omega) dR.sq (fun x7 => ?_) (fun x7 => ?_))
        · refine aw_eq rfl (fun c => absurd c (by decide)) (fun _ => ?_)
          refine aw_c (v := nI 1) rfl (by decide) ?_
          refine aw rfl rfl ?_
          exact aw_iret rfl rfl (q1 (by unfold whB; rw [decide_eq_true (by omega), i6.mp x6, i7.mp x7]; rfl))
        · refine aw_eq rfl (fun _ => ?_) (fun c => absurd (by decide) c)
          refine aw_c (v := nI 0) rfl (by decide) ?_
          exact aw_iret rfl rfl (q0 (by unfold whB; rw [Bool.eq_false_iff.mpr (fun w => x7 (i7.mpr w)), Bool.and_false]))
      · refine aw_eq rfl (fun _ => ?_) (fun c => absurd (by decide) c)
        refine aw_c (v := nI 0) rfl (by decide) ?_
        exact aw_iret rfl rfl (q0 (by unfold whB; rw [Bool.eq_false_iff.mpr (fun w => x6 (i6.mpr w)), Bool.and_false, Bool.false_and]))
theorem c_X4_judge {Q : Option Value → am_H → Prop} (hz : rf 2 = zq z) (hn : n ≤ 2000) (hR : RS Y K s) (hD : s.2.1.1 = 0 → CDt T u K C D (s.2.2.1 = 0) ∧ (s.2.2.1 = 0 → gD D)) (q : ∀ K' c p, (if ¬ s.2.1.1 = 0 then (s.2.1.1, nI s.2.1.2) else if ¬ s.2.2.1 = 0 then (s.2.2.1, nI s.2.2.2) else if whB D = true then (0, -1) else (7, nI n)) = (c, p) → K'.1 8 = nI c → K'.1 9 = p → (∀ m, ¬ (m = 8 ∨ m = 9) → K'.1 m = K.1 m) → K'.2 = K.2 → Q none (cz z g T u X K' rf)) : AC am_P 4 84 67 [.ref 40, .int (nI n)] (cz z g T u X K rf) Q := by
  refine AC.of (ls := [_, _]) rfl ?_
  obtain ⟨hA, ht, hf8, h8, hok, hfl⟩ := hR
  refine aw rfl rfl ?_
  refine aw_getfE rfl zg_40 rfl (congrArg Value.int h8) ?_
  refine aw_nen rfl (fun c4 => ?_) (fun c4 => ?_)
  · refine aw rfl rfl ?_
    refine aw_getfE rfl zg_40 rfl (congrArg Value.int h8) ?_
    refine aw_nen rfl (fun c34 => ?_) (fun c34 => absurd c34 c4)
    exact aw_vret rfl rfl (q K _ _ (if_pos c4) h8 (hfl c4).1 (fun _ _ => rfl) rfl)
  · have hs0 : s.2.1.1 = 0 := c4
    obtain ⟨h2, htk, hl8, h10, h11, h9m⟩ := hok hs0
    obtain ⟨hD1, hG1⟩ := hD hs0
    refine aw rfl rfl ?_
    refine aw_getfE rfl zg_40 rfl (congrArg Value.int h10) ?_
    refine aw_eqn rfl (fun c11 => ?_) (fun c11 => ?_)
    · refine aw rfl rfl ?_
      refine aw_getfE rfl zg_40 rfl (congrArg Value.int (show K.1 8 = nI 0 by rw [h8, hs0])) ?_
      refine aw_ne rfl (fun c => absurd (by decide) c) (fun _ => ?_)
      refine aw rfl rfl ?_
      refine aw_getfE rfl zg_40 rfl (congrArg Value.ref hz) ?_
      refine aw_cv (d1 := 3) (L1 := 64) rfl rfl zs_0 rfl rfl (by decide) (by decide) (Nat.le_of_ble_eq_true rfl) (c_X7_isWhole (show CDt T u K C D True from ⟨hD1.1, hD1.2.1, hD1.2.2.1, hD1.2.2.2.cg (fun _ _ => rfl) rfl (fun _ => c11)⟩) (hG1 c11) (fun hw => ?_) (fun hw => ?_))
      · refine aw_ne rfl (fun _ => ?_) (fun c => absurd c (by decide))
        exact aw_vret rfl rfl (q K 0 (-1) (by rw [if_neg (fun w => w hs0), if_neg (fun w => w c11), if_pos hw]) (by rw [h8, hs0]) h9m (fun _ _ => rfl) rfl)
      · refine aw_ne rfl (fun c => absurd (by decide) c) (fun _ => ?_)
        refine aw rfl rfl ?_
        refine aw_c (v := nI 7) rfl (by decide) ?_
        refine aw_putfU rfl zg_40 rfl rfl (by decide) zp_40_8 ?_
        refine aw rfl rfl ?_
        refine aw rfl rfl ?_
        refine aw_putfU rfl zg_40 rfl rfl (by decide) zp_40_9 ?_
        exact aw_vret rfl rfl (q _ 7 (nI n) (by rw [if_neg (fun w => w hs0), if_neg (fun w => w c11), if_neg (by rw [hw]; decide)]) rfl rfl (fun m hm => by (have e8 : ¬ m = 8 := by omega); (have e9 : ¬ m = 9 := by omega); simp only [va_up, if_neg e8, if_neg e9]) rfl)
    · refine aw rfl rfl ?_
      refine aw rfl rfl ?_
      refine aw_getfE rfl zg_40 rfl (congrArg Value.int h10) ?_
      refine aw_putfU rfl zg_40 rfl rfl (by decide) zp_40_8 ?_
      refine aw rfl rfl ?_
      refine aw rfl rfl ?_
      refine aw_getf rfl zg_40 rfl ?_
      refine aw_putfU rfl zg_40 rfl rfl (by decide) zp_40_9 ?_
      refine aw rfl rfl ?_
      refine aw_getfE rfl zg_40 rfl (congrArg Value.int (show _ = nI s.2.2.1 from rfl)) ?_
      refine aw_nen rfl (fun c34 => ?_) (fun c34 => absurd c34 c11)
      exact aw_vret rfl rfl (q _ s.2.2.1 (nI s.2.2.2) (by rw [if_neg (fun w => w hs0), if_pos c11]) rfl (h11 c11).1 (fun m hm => by (have e8 : ¬ m = 8 := by omega); (have e9 : ¬ m = 9 := by omega); simp only [va_up, if_neg e8, if_neg e9]) rfl)
theorem c_take0 {Q : Option Value → am_H → Prop} (hA : ∀ i, i ≤ 400 → TKR Y i (K.2.1 43 i) (K.2.1 44 i) (K.2.1 45 i)) (h8 : K.1 8 = nI 0) (h2 : K.1 2 = -1) (h10 : K.1 10 = nI 0) (h9 : K.1 9 = -1) (q : ∀ K', RS Y K' s00 → KQ K K' → Q none (cz z g T u X K' rf)) : AC am_P 0 0 44 [.ref 40] (cz z g T u X K rf) Q := by
  refine AC.of (ls := [_]) rfl ?_
  refine aw rfl rfl ?_
  refine aw_getfE rfl zg_40 rfl (congrArg Value.int h8) ?_
  refine aw_ne rfl (fun c => absurd (by decide) c) (fun _ => ?_)
  refine aw rfl rfl ?_
  refine aw rfl rfl ?_
  refine aw_getfE rfl zg_40 rfl (congrArg Value.int h2) ?_
  refine aw_c (v := nI 1) rfl (by decide) ?_
  refine aw rfl rfl ?_
  rw [show (-1 : Int32) + nI 1 = nI 0 by decide]
  refine aw_putfU rfl zg_40 rfl rfl (by decide) zp_40_2 ?_
  refine aw rfl rfl ?_
  refine aw_getfE rfl zg_40 rfl (congrArg Value.int (show va_up K.1 2 _ 2 = nI 0 from rfl)) ?_
  refine aw_c (v := nI 400) rfl (by decide) ?_
  refine aw_igt rfl (fun c => absurd c (by decide)) (fun _ => ?_)
  refine aw rfl rfl ?_
  refine aw_getfE rfl zg_40 rfl (congrArg Value.int (show va_up K.1 2 _ 2 = nI 0 from rfl)) ?_
  refine aw_ge rfl (fun _ => ?_) (fun c => absurd (by decide) c)
  refine aw rfl rfl ?_
  refine aw rfl rfl ?_
  refine aw_getf rfl zg_40 rfl ?_
  refine aw_getf rfl zg_42 rfl ?_
  refine aw rfl rfl ?_
  refine aw_getfE rfl zg_40 rfl (congrArg Value.int (show va_up K.1 2 _ 2 = nI 0 from rfl)) ?_
  refine aw_iald rfl zg_43 rfl (by omega) (by decide) ?_
  refine aw_putfU rfl zg_40 rfl rfl (by decide) zp_40_3 ?_
  refine aw rfl rfl ?_
  refine aw rfl rfl ?_
  refine aw_getf rfl zg_40 rfl ?_
  refine aw_getf rfl zg_42 rfl ?_
  refine aw rfl rfl ?_
  refine aw_getfE rfl zg_40 rfl (congrArg Value.int rfl) ?_
  refine aw_iald rfl zg_44 rfl (by omega) (by decide) ?_
  refine aw_putfU rfl zg_40 rfl rfl (by decide) zp_40_4 ?_
  refine aw rfl rfl ?_
  refine aw rfl rfl ?_
  refine aw_getf rfl zg_40 rfl ?_
  refine aw_getf rfl zg_42 rfl ?_
  refine aw rfl rfl ?_
  refine aw_getfE rfl zg_40 rfl (congrArg Value.int rfl) ?_
  refine aw_iald rfl zg_45 rfl (by omega) (by decide) ?_
  refine aw_putfU rfl zg_40 rfl rfl (by decide) zp_40_5 ?_
  exact aw_vret rfl rfl (q _ ⟨hA, by decide, by decide, h8, fun _ => ⟨rfl, hA 0 (by decide), by decide, h10, fun w => absurd rfl w, h9⟩, fun w => absurd rfl w⟩ ⟨fun n hn => by (have e1 : ¬ n = 3 := by omega); (have e2 : ¬ n = 4 := by omega); (have e3 : ¬ n = 2 := by omega); (have e4 : ¬ n = 5 := by omega); simp only [va_up, if_neg e1, if_neg e2, if_neg e3, if_neg e4], rfl⟩)
end C1
