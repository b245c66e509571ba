/-! ===== the class's reader: takeKick ===== -/
def YV (Y : Tk) : Prop := (∀ i, kOK (Y.1 i)) ∧ ∀ i, Y.2.2.1 i ≤ 9999
/-- a kick's name -/
def kkN (Y : Tk) (s : Ps) : List Nat := Y.2.2.2 (go Y s).1
/-- behind its name: tw, whether it was told -/
def kk1 (Y : Tk) (tw : Bool) (s : Ps) : Ps := bif tw then wr 3 (Y.2.1 (go Y s).1) (mu Y 1 (go Y s)) else mu Y 1 (go Y s)
def kkO (Y : Tk) (tw : Bool) (s : Ps) : List OT := (ots Y 6 (kk1 Y tw s)).1
def kkS (Y : Tk) (tw : Bool) (s : Ps) : Ps := if osm (kkO Y tw s) = 6 then (ots Y 6 (kk1 Y tw s)).2 else wr 5 (Y.2.1 (go Y s).1) (ots Y 6 (kk1 Y tw s)).2
theorem otc_9 {Y : Tk} (hY : YV Y) (s : Ps) : (otc Y s).1.1 ≤ 9999 := by
  show iV Y 1 s ≤ 9999
  unfold iV
  split
  · exact hY.2 _
  · decide
theorem ots_9 {Y : Tk} (hY : YV Y) : ∀ (n : Nat) (s : Ps), osm (ots Y n s).1 ≤ 9999 * n := by
  intro n
  induction n with
  | zero => intro s; rw [ots]; split <;> exact Nat.zero_le _
  | succ n ih =>
    intro s
    rw [ots]
    split
    · rw [osm]; have h1 := ih (otc Y s).2; have h2 := otc_9 hY s; omega
    · exact Nat.zero_le _
theorem osR_cg {T T' : Sd} : ∀ (os : List OT) (b : Nat), (∀ j, 2 ≤ j → j ≤ 5 → ∀ i, b ≤ i → i < b + os.length → T'.2 j i = T.2 j i) → osR T b os → osR T' b os := by
  intro os
  induction os with
  | nil => intro b _ _; trivial
  | cons o r ih =>
    intro b h hr
    have hl : (o :: r).length = r.length + 1 := rfl
    obtain ⟨⟨r1, r2, r3, r4⟩, rr⟩ := hr
    refine ⟨⟨?_, ?_, ?_, ?_⟩, ih (b + 1) (fun j h2 h5 i hi hi2 => h j h2 h5 i (by omega) (by omega)) rr⟩
    · rw [h 2 (by decide) (by decide) b (Nat.le_refl _) (by omega)]; exact r1
    · rw [h 3 (by decide) (by decide) b (Nat.le_refl _) (by omega)]; exact r2
    · rw [h 4 (by decide) (by decide) b (Nat.le_refl _) (by omega)]; exact r3
    · rw [h 5 (by decide) (by decide) b (Nat.le_refl _) (by omega)]; exact r4
def KQ4 (K K' : Ck) : Prop := (∀ n, n < 2 ∨ n = 6 ∨ 11 < n → K'.1 n = K.1 n) ∧ K'.2.1 = K.2.1 ∧ K'.2.2.1 = K.2.2.1 ∧ K'.2.2.2.2 = K.2.2.2.2
theorem KQ.k4 {K K' : Ck} (h : KQ K K') : KQ4 K K' := ⟨h.1, by rw [h.2], by rw [h.2], by rw [h.2]⟩
theorem KQ4.tr {K K1 K2 : Ck} (h : KQ4 K K1) (h1 : KQ4 K1 K2) : KQ4 K K2 := ⟨fun n hn => (h1.1 n hn).trans (h.1 n hn), h1.2.1.trans h.2.1, h1.2.2.1.trans h.2.2.1, h1.2.2.2.trans h.2.2.2⟩
theorem RS.k4 {Y : Tk} {K : Ck} {s : Ps} {f : Nat → Int64} (h : RS Y K s) : RS Y (K.1, K.2.1, K.2.2.1, f, K.2.2.2.2) s := h
section C1
variable {z : Bool} {g : am_H} {T : Sd} {u : Ua} {X : Sd × Ua} {K : Ck} {rf : Nat → Nat}
variable {Y : Tk} {s : Ps} {n : Nat}
theorem c_X4_takeKick {Q : Option Value → am_H → Prop} (hY : YV Y) (hz : rf 2 = zq z) (hN : TN Y K n) (hR : RS Y K s) (hf : s.2.1.1 = 0) (h20 : 20 ≤ Y.1 s.1) (hr : T.1 3 ≤ 4) (q1 : T.1 3 = 4 → ∀ K', RS Y K' (fl Y 2 s) → KQ K K' → Q none (cz z g T u X K' rf)) (q0 : T.1 3 < 4 → ∀ tw K' T', (¬ (go Y s).2.1.1 = 0 ∨ ¬ Y.1 (go Y s).1 = 1 ∨ (tw = true ∧ ∃ j, j < T.1 3 ∧ K.2.2.2.1 j = n32 (kkN Y s)) ∨ (tw = false ∧ ∀ j, j < T.1 3 → ¬ K.2.2.2.1 j = n32 (kkN Y s))) → RS Y K' (kkS Y tw s) → KQ4 K K' → (∀ j, ¬ j = 3 → T'.1 j = T.1 j) → (∀ j, j = 0 ∨ 5 < j → T'.2 j = T.2 j) → ((kkS Y tw s).2.1.1 = 0 → T'.1 3 = T.1 3 + 1 ∧ K'.2.2.2.1 = vp_updL K.2.2.2.1 (T.1 3) (n32 (kkN Y s)) ∧ T'.2 1 (T.1 3) = nI (kkO Y tw s).length ∧ osR T' (6 * T.1 3) (kkO Y tw s) ∧ (∀ i, ¬ i = T.1 3 → T'.2 1 i = T.2 1 i) ∧ (∀ j i, 2 ≤ j → j ≤ 5 → i < 6 * T.1 3 ∨ 6 * T.1 3 + 6 ≤ i → T'.2 j i = T.2 j i)) → Q none (cz z g T' u X K' rf)) : AC am_P 4 95 50 [.ref 40] (cz z g T u X K rf) Q := by
  refine AC.of (ls := [_, _, _, _, _]) rfl ?_
  have htk0 := (hR.2.2.2.2.1 hf).2.1
  refine aw rfl rfl ?_
  refine aw_getfE rfl zg_40 rfl (congrArg Value.ref hz) ?_
  refine aw_getf rfl zs_0 rfl ?_
  refine aw_ist (ls' := [_, _, _, _, _]) rfl rfl ?_
  refine aw rfl rfl ?_
  refine aw_ltn rfl ?_
  refine aw rfl rfl ?_
  refine aw_c (v := nI 4) rfl (by decide) ?_
  refine aw_iltn rfl (fun c14 => ?_) (fun c14 => ?_)
  · refine aw rfl rfl ?_
    refine aw_cv (d1 := 0) (L1 := 0) rfl rfl zg_40 rfl rfl (by decide) (by decide) (Nat.le_of_ble_eq_true rfl) (c_takeK hR hf (fun K1 hR1 hK1 hk3 => ?_))
    refine aw rfl rfl ?_
    refine aw_getf rfl zg_40 rfl ?_
    refine aw_c (v := nI 1) rfl (by decide) ?_
    refine aw_ieq rfl (fun c32 => ?_) (fun c32 => ?_)
    · have hgf : (go Y s).2.1.1 = 0 := Decidable.of_not_not (fun w => by
        have e1 : K.1 3 = nI 2 := (tk_wd htk0).mpr h20
        rw [hk3 w, e1] at c32
        exact absurd c32 (by decide))
      have ht := (hR1.2.2.2.2.1 hgf).2.1
      have h1 := (tk_name ht).mp c32
      obtain ⟨hnu, hl1, hl8⟩ := tk_len ht h1
      have hpl := ht.1
      have hp2 := ht.2.1
      have hi4 := hR1.2.1
      have hN1 := hN.kq (K' := K1) (hK1.1 12 (by omega)) (by rw [hK1.2])
      have em : mu Y 1 (go Y s) = go Y (go Y s) := by unfold mu; rw [if_neg (fun w => w.2 h1)]
      have hkn : K1.2.2.2.1 = K.2.2.2.1 := by rw [hK1.2]
      refine aw rfl rfl ?_
      refine aw_getfE rfl zg_40 rfl (congrArg Value.int hpl) ?_
      refine aw_ist (ls' := [_, _, _, _, _]) rfl rfl ?_
      refine aw rfl rfl ?_
      refine aw_getf rfl zg_40 rfl ?_
      refine aw rfl rfl ?_
      refine aw_getfE rfl zg_40 rfl (congrArg Value.int hpl) ?_
      refine aw rfl rfl ?_
      refine aw_getfE rfl zg_40 rfl (congrArg Value.int hnu) ?_
      refine aw_cv (d1 := 1) (L1 := 21) rfl rfl zg_42 rfl rfl (by decide) (by decide) (Nat.le_of_ble_eq_true rfl) (c_X9_nameAt hN1 hi4 h1 hl8 ?_)
      refine aw_lst (ls' := [_, _, _, _, _]) rfl rfl ?_
      refine aw rfl rfl ?_
      refine aw rfl rfl ?_
      refine aw_cv (d1 := 0) (L1 := 0) rfl rfl zg_40 rfl rfl (by decide) (by decide) (Nat.le_of_ble_eq_true rfl) (c_X4_isToldKick hz hr (fun j j1 j2 => ?_) (fun j0 => ?_))
      · refine aw_eq rfl (fun c => absurd c (by decide)) (fun _ => ?_)
        refine aw rfl rfl ?_
        refine aw_c (v := nI 3) rfl (by decide) ?_
        refine aw rfl rfl ?_
        refine aw_cv (d1 := 0) (L1 := 0) rfl rfl zg_40 rfl rfl (by decide) (by decide) (Nat.le_of_ble_eq_true rfl) (c_failLate hR1 hgf (by decide) hp2 (fun K3 hR3 hK3 => ?_))
        refine aw rfl rfl ?_
        refine aw_getf rfl zg_40 rfl ?_
        refine aw rfl rfl ?_
        refine aw rfl rfl ?_
        refine aw_lastU rfl zg_41 rfl (by omega) (by decide) (by decide) zu_41 ?_
        refine aw rfl rfl ?_
        refine aw_cv (d1 := 0) (L1 := 0) rfl rfl zg_40 rfl rfl (by decide) (by decide) (Nat.le_of_ble_eq_true rfl) (c_X4_take hR3.k4 (fun K4 hR4 hK4 => ?_))
        have ek : kk1 Y true s = wr 3 (Y.2.1 (go Y s).1) (go Y (go Y s)) := by unfold kk1; rw [em]; rfl
        have hR4 : RS Y K4 (kk1 Y true s) := by rw [ek]; exact hR4.cg (by rw [wr_0.2]; exact go_le hi4) go_wr.1.symm go_wr.2
        have hK4w := hK4
        have hK4 : KQ4 K K4 := (hK1.tr hK3).k4.tr ((show KQ4 K3 (K3.1, K3.2.1, K3.2.2.1, vp_updL K3.2.2.2.1 (T.1 3) (n32 (kkN Y s)), K3.2.2.2.2) from ⟨fun _ _ => rfl, rfl, rfl, rfl⟩).tr hK4.k4)
        have hnm : K4.2.2.2.1 = vp_updL K.2.2.2.1 (T.1 3) (n32 (kkN Y s)) := by rw [hK4w.2]; show vp_updL K3.2.2.2.1 (T.1 3) _ = _; rw [hK3.2, hkn]; rfl
        have htw : ¬ (go Y s).2.1.1 = 0 ∨ ¬ Y.1 (go Y s).1 = 1 ∨ (true = true ∧ ∃ j, j < T.1 3 ∧ K.2.2.2.1 j = n32 (kkN Y s)) ∨ (true = false ∧ ∀ j, j < T.1 3 → ¬ K.2.2.2.1 j = n32 (kkN Y s)) := Or.inr (Or.inr (Or.inl ⟨rfl, j, j1, by rw [← hkn]; exact j2⟩))
        refine aw rfl rfl ?_
        refine aw rfl rfl ?_
        refine aw_cv (d1 := 3) (L1 := 71) rfl rfl zg_40 rfl rfl (by decide) (by decide) (Nat.le_of_ble_eq_true rfl) (c_X4_takeOutcomes hz (by omega) hR4 (fun K5 T5 y hR5 hK5 hT5 ok5 => ?_))
        by_cases hf5 : (ots Y 6 (kk1 Y true s)).2.2.1.1 = 0
        · have ho := ok5 hf5
          have hb := ots_9 hY 6 (kk1 Y true s)
          obtain ⟨o91, o92, o93⟩ := ho
          subst o93
          refine aw_c (v := nI 6) rfl (by decide) ?_
          refine aw_ieqn rfl (fun c94 => ?_) (fun c94 => ?_)
          · refine aw rfl rfl ?_
            refine aw_getfE rfl zg_40 rfl (congrArg Value.ref hz) ?_
            refine aw rfl rfl ?_
            refine aw_getf rfl zs_0 rfl ?_
            refine aw_c (v := nI 1) rfl (by decide) ?_
            refine aw_addn rfl ?_
            refine aw_putfU rfl zs_0 rfl rfl zq_88 zt_0_4 ?_
            have hsum : osm (kkO Y true s) = 6 := c94
            refine aw_vret rfl rfl ?_
            have v1 := hT5.1
            have v2 := hT5.2.1
            have v3 := hT5.2.2.1
            have v4 := hT5.2.2.2
            exact q0 (by omega) true K5 _ htw (by rw [show kkS Y true s = (ots Y 6 (kk1 Y true s)).2 from if_pos hsum]; exact hR5) (hK4.tr hK5.k4) (fun j hj => by show va_up T5.1 3 _ j = _; rw [vu_ot hj, v1]) (fun j hj => v2 j hj) (fun hg => by
              have hg9 : (ots Y 6 (kk1 Y true s)).2.2.1.1 = 0 := by rw [show kkS Y true s = (ots Y 6 (kk1 Y true s)).2 from if_pos hsum] at hg; exact hg
              obtain ⟨o1, o2, o3⟩ := ok5 hg9
              exact ⟨by show T5.1 3 + 1 = _; rw [v1], by rw [hK5.2]; exact hnm, o1, osR_cg (T := T5) _ _ (fun _ _ _ _ _ _ => rfl) o2, v3, v4⟩)
          · refine aw rfl rfl ?_
            refine aw_c (v := nI 5) rfl (by decide) ?_
            refine aw rfl rfl ?_
            refine aw_cv (d1 := 0) (L1 := 0) rfl rfl zg_40 rfl rfl (by decide) (by decide) (Nat.le_of_ble_eq_true rfl) (c_failLate hR5 hf5 (by decide) hp2 (fun K6 hR6 hK6 => ?_))
            refine aw rfl rfl ?_
            refine aw_getfE rfl zg_40 rfl (congrArg Value.ref hz) ?_
            refine aw rfl rfl ?_
            refine aw_getf rfl zs_0 rfl ?_
            refine aw_c (v := nI 1) rfl (by decide) ?_
            refine aw_addn rfl ?_
            refine aw_putfU rfl zs_0 rfl rfl zq_88 zt_0_4 ?_
            have hsum : ¬ osm (kkO Y true s) = 6 := c94
            refine aw_vret rfl rfl ?_
            have v1 := hT5.1
            have v2 := hT5.2.1
            have v3 := hT5.2.2.1
            have v4 := hT5.2.2.2
            exact q0 (by omega) true K6 _ htw (by rw [show kkS Y true s = wr 5 (Y.2.1 (go Y s).1) (ots Y 6 (kk1 Y true s)).2 from if_neg hsum]; exact hR6) ((hK4.tr hK5.k4).tr hK6.k4) (fun j hj => by show va_up T5.1 3 _ j = _; rw [vu_ot hj, v1]) (fun j hj => v2 j hj) (fun hg => by
              have hg9 : (ots Y 6 (kk1 Y true s)).2.2.1.1 = 0 := by rw [show kkS Y true s = wr 5 (Y.2.1 (go Y s).1) (ots Y 6 (kk1 Y true s)).2 from if_neg hsum, wr_0.1] at hg; exact hg
              obtain ⟨o1, o2, o3⟩ := ok5 hg9
              exact ⟨by show T5.1 3 + 1 = _; rw [v1], by rw [hK6.2, hK5.2]; exact hnm, o1, osR_cg (T := T5) _ _ (fun _ _ _ _ _ _ => rfl) o2, v3, v4⟩)
        · have ek9 : kkS Y true s = (ots Y 6 (kk1 Y true s)).2 := by unfold kkS; split; rfl; exact wr_f hf5
          refine aw_c (v := nI 6) rfl (by decide) ?_
          refine aw_ieq rfl (fun c94 => ?_) (fun c94 => ?_)
          · refine aw rfl rfl ?_
            refine aw_getfE rfl zg_40 rfl (congrArg Value.ref hz) ?_
            refine aw rfl rfl ?_
            refine aw_getf rfl zs_0 rfl ?_
            refine aw_c (v := nI 1) rfl (by decide) ?_
            refine aw_addn rfl ?_
            refine aw_putfU rfl zs_0 rfl rfl zq_88 zt_0_4 ?_
            refine aw_vret rfl rfl ?_
            have v1 := hT5.1
            have v2 := hT5.2.1
            have v3 := hT5.2.2.1
            have v4 := hT5.2.2.2
            exact q0 (by omega) true K5 _ htw (by rw [ek9]; exact hR5) (hK4.tr hK5.k4) (fun j hj => by show va_up T5.1 3 _ j = _; rw [vu_ot hj, v1]) (fun j hj => v2 j hj) (fun hg => by
              have hg9 : (ots Y 6 (kk1 Y true s)).2.2.1.1 = 0 := absurd (show (ots Y 6 (kk1 Y true s)).2.2.1.1 = 0 by rw [ek9] at hg; exact hg) hf5
              obtain ⟨o1, o2, o3⟩ := ok5 hg9
              exact ⟨by show T5.1 3 + 1 = _; rw [v1], by rw [hK5.2]; exact hnm, o1, osR_cg (T := T5) _ _ (fun _ _ _ _ _ _ => rfl) o2, v3, v4⟩)
          · refine aw rfl rfl ?_
            refine aw_c (v := nI 5) rfl (by decide) ?_
            refine aw rfl rfl ?_
            refine aw_cv (d1 := 0) (L1 := 0) rfl rfl zg_40 rfl rfl (by decide) (by decide) (Nat.le_of_ble_eq_true rfl) (c_failLateF hR5 hf5 (fun K6 hR6 hK6 => ?_))
            refine aw rfl rfl ?_
            refine aw_getfE rfl zg_40 rfl (congrArg Value.ref hz) ?_
            refine aw rfl rfl ?_
            refine aw_getf rfl zs_0 rfl ?_
            refine aw_c (v := nI 1) rfl (by decide) ?_
            refine aw_addn rfl ?_
            refine aw_putfU rfl zs_0 rfl rfl zq_88 zt_0_4 ?_
            refine aw_vret rfl rfl ?_
            have v1 := hT5.1
            have v2 := hT5.2.1
            have v3 := hT5.2.2.1
            have v4 := hT5.2.2.2
            exact q0 (by omega) true K6 _ htw (by rw [ek9]; exact hR6) ((hK4.tr hK5.k4).tr hK6.k4) (fun j hj => by show va_up T5.1 3 _ j = _; rw [vu_ot hj, v1]) (fun j hj => v2 j hj) (fun hg => by
              have hg9 : (ots Y 6 (kk1 Y true s)).2.2.1.1 = 0 := absurd (show (ots Y 6 (kk1 Y true s)).2.2.1.1 = 0 by rw [ek9] at hg; exact hg) hf5
              obtain ⟨o1, o2, o3⟩ := ok5 hg9
              exact ⟨by show T5.1 3 + 1 = _; rw [v1], by rw [hK6.2, hK5.2]; exact hnm, o1, osR_cg (T := T5) _ _ (fun _ _ _ _ _ _ => rfl) o2, v3, v4⟩)
      · refine aw_eq rfl (fun _ => ?_) (fun c => absurd (by decide) c)
        refine aw rfl rfl ?_
        refine aw_getf rfl zg_40 rfl ?_
        refine aw rfl rfl ?_
        refine aw rfl rfl ?_
        refine aw_lastU rfl zg_41 rfl (by omega) (by decide) (by decide) zu_41 ?_
        refine aw rfl rfl ?_
        refine aw_cv (d1 := 0) (L1 := 0) rfl rfl zg_40 rfl rfl (by decide) (by decide) (Nat.le_of_ble_eq_true rfl) (c_X4_take hR1.k4 (fun K4 hR4 hK4 => ?_))
        have ek : kk1 Y false s = go Y (go Y s) := by unfold kk1; rw [em]; rfl
        have hR4 : RS Y K4 (kk1 Y false s) := by rw [ek]; exact hR4
        have hK4w := hK4
        have hK4 : KQ4 K K4 := hK1.k4.tr ((show KQ4 K1 (K1.1, K1.2.1, K1.2.2.1, vp_updL K1.2.2.2.1 (T.1 3) (n32 (kkN Y s)), K1.2.2.2.2) from ⟨fun _ _ => rfl, rfl, rfl, rfl⟩).tr hK4.k4)
        have hnm : K4.2.2.2.1 = vp_updL K.2.2.2.1 (T.1 3) (n32 (kkN Y s)) := by rw [hK4w.2]; show vp_updL K1.2.2.2.1 (T.1 3) _ = _; rw [hkn]; rfl
        have htw : ¬ (go Y s).2.1.1 = 0 ∨ ¬ Y.1 (go Y s).1 = 1 ∨ (false = true ∧ ∃ j, j < T.1 3 ∧ K.2.2.2.1 j = n32 (kkN Y s)) ∨ (false = false ∧ ∀ j, j < T.1 3 → ¬ K.2.2.2.1 j = n32 (kkN Y s)) := Or.inr (Or.inr (Or.inr ⟨rfl, fun j jl => by rw [← hkn]; exact j0 j jl⟩))
        refine aw rfl rfl ?_
        refine aw rfl rfl ?_
        refine aw_cv (d1 := 3) (L1 := 71) rfl rfl zg_40 rfl rfl (by decide) (by decide) (Nat.le_of_ble_eq_true rfl) (c_X4_takeOutcomes hz (by omega) hR4 (fun K5 T5 y hR5 hK5 hT5 ok5 => ?_))
        by_cases hf5 : (ots Y 6 (kk1 Y false s)).2.2.1.1 = 0
        · have ho := ok5 hf5
          have hb := ots_9 hY 6 (kk1 Y false s)
          obtain ⟨o91, o92, o93⟩ := ho
          subst o93
          refine aw_c (v := nI 6) rfl (by decide) ?_
          refine aw_ieqn rfl (fun c94 => ?_) (fun c94 => ?_)
          · refine aw rfl rfl ?_
            refine aw_getfE rfl zg_40 rfl (congrArg Value.ref hz) ?_
            refine aw rfl rfl ?_
            refine aw_getf rfl zs_0 rfl ?_
            refine aw_c (v := nI 1) rfl (by decide) ?_
            refine aw_addn rfl ?_
            refine aw_putfU rfl zs_0 rfl rfl zq_88 zt_0_4 ?_
            have hsum : osm (kkO Y false s) = 6 := c94
            refine aw_vret rfl rfl ?_
            have v1 := hT5.1
            have v2 := hT5.2.1
            have v3 := hT5.2.2.1
            have v4 := hT5.2.2.2
            exact q0 (by omega) false K5 _ htw (by rw [show kkS Y false s = (ots Y 6 (kk1 Y false s)).2 from if_pos hsum]; exact hR5) (hK4.tr hK5.k4) (fun j hj => by show va_up T5.1 3 _ j = _; rw [vu_ot hj, v1]) (fun j hj => v2 j hj) (fun hg => by
              have hg9 : (ots Y 6 (kk1 Y false s)).2.2.1.1 = 0 := by rw [show kkS Y false s = (ots Y 6 (kk1 Y false s)).2 from if_pos hsum] at hg; exact hg
              obtain ⟨o1, o2, o3⟩ := ok5 hg9
              exact ⟨by show T5.1 3 + 1 = _; rw [v1], by rw [hK5.2]; exact hnm, o1, osR_cg (T := T5) _ _ (fun _ _ _ _ _ _ => rfl) o2, v3, v4⟩)
          · refine aw rfl rfl ?_
            refine aw_c (v := nI 5) rfl (by decide) ?_
            refine aw rfl rfl ?_
            refine aw_cv (d1 := 0) (L1 := 0) rfl rfl zg_40 rfl rfl (by decide) (by decide) (Nat.le_of_ble_eq_true rfl) (c_failLate hR5 hf5 (by decide) hp2 (fun K6 hR6 hK6 => ?_))
            refine aw rfl rfl ?_
            refine aw_getfE rfl zg_40 rfl (congrArg Value.ref hz) ?_
            refine aw rfl rfl ?_
            refine aw_getf rfl zs_0 rfl ?_
            refine aw_c (v := nI 1) rfl (by decide) ?_
            refine aw_addn rfl ?_
            refine aw_putfU rfl zs_0 rfl rfl zq_88 zt_0_4 ?_
            have hsum : ¬ osm (kkO Y false s) = 6 := c94
            refine aw_vret rfl rfl ?_
            have v1 := hT5.1
            have v2 := hT5.2.1
            have v3 := hT5.2.2.1
            have v4 := hT5.2.2.2
            exact q0 (by omega) false K6 _ htw (by rw [show kkS Y false s = wr 5 (Y.2.1 (go Y s).1) (ots Y 6 (kk1 Y false s)).2 from if_neg hsum]; exact hR6) ((hK4.tr hK5.k4).tr hK6.k4) (fun j hj => by show va_up T5.1 3 _ j = _; rw [vu_ot hj, v1]) (fun j hj => v2 j hj) (fun hg => by
              have hg9 : (ots Y 6 (kk1 Y false s)).2.2.1.1 = 0 := by rw [show kkS Y false s = wr 5 (Y.2.1 (go Y s).1) (ots Y 6 (kk1 Y false s)).2 from if_neg hsum, wr_0.1] at hg; exact hg
              obtain ⟨o1, o2, o3⟩ := ok5 hg9
              exact ⟨by show T5.1 3 + 1 = _; rw [v1], by rw [hK6.2, hK5.2]; exact hnm, o1, osR_cg (T := T5) _ _ (fun _ _ _ _ _ _ => rfl) o2, v3, v4⟩)
        · have ek9 : kkS Y false s = (ots Y 6 (kk1 Y false s)).2 := by unfold kkS; split; rfl; exact wr_f hf5
          refine aw_c (v := nI 6) rfl (by decide) ?_
          refine aw_ieq rfl (fun c94 => ?_) (fun c94 => ?_)
          · refine aw rfl rfl ?_
            refine aw_getfE rfl zg_40 rfl (congrArg Value.ref hz) ?_
            refine aw rfl rfl ?_
            refine aw_getf rfl zs_0 rfl ?_
            refine aw_c (v := nI 1) rfl (by decide) ?_
            refine aw_addn rfl ?_
            refine aw_putfU rfl zs_0 rfl rfl zq_88 zt_0_4 ?_
            refine aw_vret rfl rfl ?_
            have v1 := hT5.1
            have v2 := hT5.2.1
            have v3 := hT5.2.2.1
            have v4 := hT5.2.2.2
            exact q0 (by omega) false K5 _ htw (by rw [ek9]; exact hR5) (hK4.tr hK5.k4) (fun j hj => by show va_up T5.1 3 _ j = _; rw [vu_ot hj, v1]) (fun j hj => v2 j hj) (fun hg => by
              have hg9 : (ots Y 6 (kk1 Y false s)).2.2.1.1 = 0 := absurd (show (ots Y 6 (kk1 Y false s)).2.2.1.1 = 0 by rw [ek9] at hg; exact hg) hf5
              obtain ⟨o1, o2, o3⟩ := ok5 hg9
              exact ⟨by show T5.1 3 + 1 = _; rw [v1], by rw [hK5.2]; exact hnm, o1, osR_cg (T := T5) _ _ (fun _ _ _ _ _ _ => rfl) o2, v3, v4⟩)
          · refine aw rfl rfl ?_
            refine aw_c (v := nI 5) rfl (by decide) ?_
            refine aw rfl rfl ?_
            refine aw_cv (d1 := 0) (L1 := 0) rfl rfl zg_40 rfl rfl (by decide) (by decide) (Nat.le_of_ble_eq_true rfl) (c_failLateF hR5 hf5 (fun K6 hR6 hK6 => ?_))
            refine aw rfl rfl ?_
            refine aw_getfE rfl zg_40 rfl (congrArg Value.ref hz) ?_
            refine aw rfl rfl ?_
            refine aw_getf rfl zs_0 rfl ?_
            refine aw_c (v := nI 1) rfl (by decide) ?_
            refine aw_addn rfl ?_
            refine aw_putfU rfl zs_0 rfl rfl zq_88 zt_0_4 ?_
            refine aw_vret rfl rfl ?_
            have v1 := hT5.1
            have v2 := hT5.2.1
            have v3 := hT5.2.2.1
            have v4 := hT5.2.2.2
            exact q0 (by omega) false K6 _ htw (by rw [ek9]; exact hR6) ((hK4.tr hK5.k4).tr hK6.k4) (fun j hj => by show va_up T5.1 3 _ j = _; rw [vu_ot hj, v1]) (fun j hj => v2 j hj) (fun hg => by
              have hg9 : (ots Y 6 (kk1 Y false s)).2.2.1.1 = 0 := absurd (show (ots Y 6 (kk1 Y false s)).2.2.1.1 = 0 by rw [ek9] at hg; exact hg) hf5
              obtain ⟨o1, o2, o3⟩ := ok5 hg9
              exact ⟨by show T5.1 3 + 1 = _; rw [v1], by rw [hK6.2, hK5.2]; exact hnm, o1, osR_cg (T := T5) _ _ (fun _ _ _ _ _ _ => rfl) o2, v3, v4⟩)
    · refine aw rfl rfl ?_
      refine aw_c (v := nI 1) rfl (by decide) ?_
      refine aw_cv (d1 := 0) (L1 := 0) rfl rfl zg_40 rfl rfl (by decide) (by decide) (Nat.le_of_ble_eq_true rfl) (c_X4_fail hR1 (by decide) (fun K2 hR2 hK2 => ?_))
      have em : mu Y 1 (go Y s) = fl Y 1 (go Y s) := by
        by_cases hgf : (go Y s).2.1.1 = 0
        · unfold mu; rw [if_pos ⟨hgf, fun w => c32 ((tk_name (hR1.2.2.2.2.1 hgf).2.1).mpr w)⟩]
        · rw [mu_f hgf, fl_f hgf]
      have hff : ¬ (fl Y 1 (go Y s)).2.1.1 = 0 := fl_0 (by decide)
      have e9 : kkS Y false s = fl Y 1 (go Y s) := by
        unfold kkS kkO kk1
        rw [cond_false, em, ots_f hff]
        rw [if_neg (show ¬ osm [] = 6 by decide), wr_f hff]
      refine aw_vret rfl rfl (q0 (by omega) false K2 T ?_ (by rw [e9]; exact hR2) (hK1.tr hK2).k4 (fun _ _ => rfl) (fun _ _ => rfl) (fun w => absurd w (by rw [e9]; exact hff)))
      by_cases hgf : (go Y s).2.1.1 = 0
      · exact Or.inr (Or.inl (fun w => c32 ((tk_name (hR1.2.2.2.2.1 hgf).2.1).mpr w)))
      · exact Or.inl hgf
  · refine aw rfl rfl ?_
    refine aw_c (v := nI 2) rfl (by decide) ?_
    refine aw_cv (d1 := 0) (L1 := 0) rfl rfl zg_40 rfl rfl (by decide) (by decide) (Nat.le_of_ble_eq_true rfl) (c_X4_fail hR (by decide) (fun K1 hR1 hK1 => ?_))
    exact aw_vret rfl rfl (q1 (by omega) K1 hR1 hK1)
end C1
