/-! ===== the class's reader: takeRow, takeKick ===== -/
theorem go_le {Y : Tk} {s : Ps} (h : s.1 ≤ 400) : (go Y s).1 ≤ 400 := by
  unfold go
  split
  · split
    · exact h
    · show s.1 + 1 ≤ 400; omega
  · exact h
theorem go_r {Y : Tk} {s : Ps} (hf : s.2.1.1 = 0) (hg : ¬ (go Y s).2.1.1 = 0) : s.1 = 400 ∧ go Y s = (s.1, (2, Y.2.1 s.1), s.2.2) := by
  by_cases h4 : s.1 = 400
  · exact ⟨h4, by unfold go; rw [if_pos hf, if_pos h4]⟩
  · unfold go at hg; rw [if_pos hf, if_neg h4] at hg; exact absurd hf hg
section C1
variable {z : Bool} {g : am_H} {T : Sd} {u : Ua} {X : Sd × Ua} {K : Ck} {rf : Nat → Nat}
variable {Y : Tk} {s : Ps} {n : Nat}
/-- take, and the token stays in the registers where it fails -/
theorem c_takeK {Q : Option Value → am_H → Prop} (hR : RS Y K s) (hf : s.2.1.1 = 0) (q : ∀ K', RS Y K' (go Y s) → KQ K K' → (¬ (go Y s).2.1.1 = 0 → K'.1 3 = K.1 3) → Q none (cz z g T u X K' rf)) : AC am_P 0 0 44 [.ref 40] (cz z g T u X K rf) Q := by
  refine AC.of (ls := [_]) rfl ?_
  have hR0 := hR
  obtain ⟨hA, ht, hf8, h8, hok, hfl⟩ := hR
  have hs0 := hf
  have h80 : K.1 8 = nI 0 := by rw [h8, hf]
  obtain ⟨h2, htk, hl8, h10, h11⟩ := hok hs0
  refine aw rfl rfl ?_
  refine aw_getfE rfl zg_40 rfl (congrArg Value.int h80) ?_
  refine aw_ne rfl (fun c => absurd (by decide) c) (fun _ => ?_)
  refine aw rfl rfl ?_
  refine aw rfl rfl ?_
  refine aw_getfE rfl zg_40 rfl (congrArg Value.int h2) ?_
  refine aw_c (v := nI 1) rfl (by decide) ?_
  refine aw_addn rfl ?_
  refine aw_putfU rfl zg_40 rfl rfl (by decide) zp_40_2 ?_
  refine aw rfl rfl ?_
  refine aw_getfE rfl zg_40 rfl (congrArg Value.int (show va_up K.1 2 _ 2 = _ from vu_at)) ?_
  refine aw_c (v := nI 400) rfl (by decide) ?_
  refine aw_igtn rfl (fun c24 => ?_) (fun c24 => ?_)
  · refine aw rfl rfl ?_
    refine aw_c (v := nI 2) rfl (by decide) ?_
    refine aw_putfU rfl zg_40 rfl rfl (by decide) zp_40_8 ?_
    refine aw rfl rfl ?_
    refine aw rfl rfl ?_
    refine aw_getf rfl zg_40 rfl ?_
    refine aw_putfU rfl zg_40 rfl rfl (by decide) zp_40_9 ?_
    refine aw rfl rfl ?_
    exact aw_vret rfl rfl (q _ (by
    have e : go Y s = (s.1, (2, Y.2.1 s.1), s.2.2) := by unfold go; rw [if_pos hs0, if_pos (by omega)]
    rw [e]
    refine ⟨hA, ht, by show 2 < 8; decide, rfl, fun w => absurd w (by show ¬ 2 = 0; decide), fun _ => ⟨?_, htk.2.1⟩⟩
    show K.1 4 = _
    exact htk.1) ⟨fun n hn => by (have e1 : ¬ n = 9 := by omega); (have e2 : ¬ n = 8 := by omega); (have e3 : ¬ n = 2 := by omega); simp only [va_up, if_neg e1, if_neg e2, if_neg e3], rfl⟩ (fun _ => rfl))
  · refine aw rfl rfl ?_
    refine aw_getfE rfl zg_40 rfl (congrArg Value.int (show va_up K.1 2 _ 2 = _ from vu_at)) ?_
    refine aw_gen rfl ?_
    refine aw rfl rfl ?_
    refine aw rfl rfl ?_
    refine aw_getf rfl zg_40 rfl ?_
    refine aw_getf rfl zg_42 rfl ?_
    refine aw rfl rfl ?_
    refine aw_getfE rfl zg_40 rfl (congrArg Value.int rfl) ?_
    refine aw_iald rfl zg_43 rfl (by omega) (by decide) ?_
    refine aw_putfU rfl zg_40 rfl rfl (by decide) zp_40_3 ?_
    refine aw rfl rfl ?_
    refine aw rfl rfl ?_
    refine aw_getf rfl zg_40 rfl ?_
    refine aw_getf rfl zg_42 rfl ?_
    refine aw rfl rfl ?_
    refine aw_getfE rfl zg_40 rfl (congrArg Value.int rfl) ?_
    refine aw_iald rfl zg_44 rfl (by omega) (by decide) ?_
    refine aw_putfU rfl zg_40 rfl rfl (by decide) zp_40_4 ?_
    refine aw rfl rfl ?_
    refine aw rfl rfl ?_
    refine aw_getf rfl zg_40 rfl ?_
    refine aw_getf rfl zg_42 rfl ?_
    refine aw rfl rfl ?_
    refine aw_getfE rfl zg_40 rfl (congrArg Value.int rfl) ?_
    refine aw_iald rfl zg_45 rfl (by omega) (by decide) ?_
    refine aw_putfU rfl zg_40 rfl rfl (by decide) zp_40_5 ?_
    exact aw_vret rfl rfl (q _ (by
    have e : go Y s = (s.1 + 1, s.2) := by unfold go; rw [if_pos hs0, if_neg (by omega)]
    rw [e]
    refine ⟨hA, by show s.1 + 1 ≤ 400; omega, hf8, h8, fun _ => ⟨rfl, hA (s.1 + 1) (by omega), hl8, h10, h11⟩, fun w => absurd hs0 w⟩) ⟨fun n hn => by (have e1 : ¬ n = 3 := by omega); (have e2 : ¬ n = 4 := by omega); (have e3 : ¬ n = 2 := by omega); (have e4 : ¬ n = 5 := by omega); simp only [va_up, if_neg e1, if_neg e2, if_neg e3, if_neg e4], rfl⟩ (fun w => absurd (show (go Y s).2.1.1 = 0 by unfold go; rw [if_pos hs0, if_neg (by omega)]; exact hs0) w))
theorem c_X4_takeRow {Q : Option Value → am_H → Prop} (hg : STr g) (hz : rf 2 = zq z) (hN : TN Y K n) (hR : RS Y K s) (hf : s.2.1.1 = 0) (h20 : 20 ≤ Y.1 s.1) (hr : T.1 1 ≤ 4) (hw0 : T.1 0 ≤ 8) (q1 : T.1 1 = 4 → ∀ K', RS Y K' (fl Y 2 s) → KQ K K' → Q none (cz z g T u X K' rf)) (q0 : T.1 1 < 4 → ∀ K' T', RS Y K' (rwS Y (T.1 1) (T.1 0) s) → KQ K K' → (∀ j, 2 ≤ j → T'.1 j = T.1 j) → (∀ j, 1 ≤ j → T'.2 j = T.2 j) → ((rwS Y (T.1 1) (T.1 0) s).2.1.1 = 0 → T'.1 1 = T.1 1 + 1 ∧ T'.1 0 = rwW (T.1 1) (T.1 0) (Y.2.2.2 (go Y s).1) ∧ (rwX (rwW (T.1 1) (T.1 0) (Y.2.2.2 (go Y s).1)) (Y.2.2.2 (go Y s).1) = false → (∀ a, a < (Y.2.2.2 (go Y s).1).length → T'.2 0 (T.1 1 * 8 + a) = soL ((Y.2.2.2 (go Y s).1).getD a 0)) ∧ (∀ a, ¬ (T.1 1 * 8 ≤ a ∧ a < T.1 1 * 8 + (Y.2.2.2 (go Y s).1).length) → T'.2 0 a = T.2 0 a))) → Q none (cz z g T' u X K' rf)) : AC am_P 5 114 46 [.ref 40] (cz z g T u X K rf) Q := by
  refine AC.of (ls := [_]) rfl ?_
  have htk0 := (hR.2.2.2.2.1 hf).2.1
  refine aw rfl rfl ?_
  refine aw_getfE rfl zg_40 rfl (congrArg Value.ref hz) ?_
  refine aw_getf rfl zs_0 rfl ?_
  refine aw_c (v := nI 4) rfl (by decide) ?_
  refine aw_iltn rfl (fun c8 => ?_) (fun c8 => ?_)
  · refine aw rfl rfl ?_
    refine aw_cv (d1 := 0) (L1 := 0) rfl rfl zg_40 rfl rfl (by decide) (by decide) (Nat.le_of_ble_eq_true rfl) (c_takeK hR hf (fun K1 hR1 hK1 hk3 => ?_))
    refine aw rfl rfl ?_
    refine aw_getf rfl zg_40 rfl ?_
    refine aw_c (v := nI 1) rfl (by decide) ?_
    refine aw_ieq rfl (fun c26 => ?_) (fun c26 => ?_)
    · have hgf : (go Y s).2.1.1 = 0 := Decidable.of_not_not (fun w => by
        have e1 : K.1 3 = nI 2 := (tk_wd htk0).mpr h20
        rw [hk3 w, e1] at c26
        exact absurd c26 (by decide))
      have ht := (hR1.2.2.2.2.1 hgf).2.1
      have h1 := (tk_name ht).mp c26
      obtain ⟨hnu, hl1, hl8⟩ := tk_len ht h1
      have hpl := ht.1
      have hp2 := ht.2.1
      have hi4 := hR1.2.1
      have hN1 := hN.kq (K' := K1) (hK1.1 12 (by omega)) (by rw [hK1.2])
      have em : mu Y 1 (go Y s) = go Y (go Y s) := by unfold mu; rw [if_neg (fun w => w.2 h1)]
      refine aw rfl rfl ?_
      refine aw_getfE rfl zg_40 rfl (congrArg Value.ref hz) ?_
      refine aw_getf rfl zs_0 rfl ?_
      refine aw_nen rfl (fun c42 => ?_) (fun c42 => ?_)
      · refine aw rfl rfl ?_
        refine aw_getfE rfl zg_40 rfl (congrArg Value.int hnu) ?_
        refine aw rfl rfl ?_
        refine aw_getfE rfl zg_40 rfl (congrArg Value.ref hz) ?_
        refine aw_getf rfl zs_0 rfl ?_
        refine aw_inen rfl (fun c67 => ?_) (fun c67 => ?_)
        · refine aw rfl rfl ?_
          refine aw_c (v := nI 6) rfl (by decide) ?_
          refine aw rfl rfl ?_
          refine aw_getfE rfl zg_40 rfl (congrArg Value.int hpl) ?_
          refine aw_cv (d1 := 0) (L1 := 0) rfl rfl zg_40 rfl rfl (by decide) (by decide) (Nat.le_of_ble_eq_true rfl) (c_failLate hR1 hgf (by decide) hp2 (fun K3 hR3 hK3 => ?_))
          refine aw rfl rfl ?_
          refine aw_getfE rfl zg_40 rfl (congrArg Value.ref hz) ?_
          refine aw rfl rfl ?_
          refine aw_getf rfl zs_0 rfl ?_
          refine aw_c (v := nI 1) rfl (by decide) ?_
          refine aw_addn rfl ?_
          refine aw_putfU rfl zs_0 rfl rfl zq_88 zt_0_1 ?_
          refine aw rfl rfl ?_
          refine aw_cv (d1 := 0) (L1 := 0) rfl rfl zg_40 rfl rfl (by decide) (by decide) (Nat.le_of_ble_eq_true rfl) (c_X4_take hR3 (fun K4 hR4 hK4 => ?_))
          have hbad : rwX (rwW (T.1 1) (T.1 0) (Y.2.2.2 (go Y s).1)) (Y.2.2.2 (go Y s).1) = true := by unfold rwX rwW; rw [if_neg c42]; simp; exact Or.inl (fun w => c67 w)
          have hG4 : (go Y (go Y s)).1 ≤ 400 := go_le hi4
          refine aw_vret rfl rfl (q0 (by omega) K4 _ (by
              have e9 : rwS Y (T.1 1) (T.1 0) s = wr 6 (Y.2.1 (go Y s).1) (go Y (go Y s)) := by unfold rwS; rw [em, if_pos hbad]
              rw [e9]; exact (hR4).cg (by rw [wr_0.2]; exact hG4) go_wr.1.symm go_wr.2)
              ((hK1.tr hK3).tr hK4) (fun j hj => ?_) (fun j hj => ?_) (fun _ => ⟨?_, ?_, fun hb => ?_⟩))
          · have e0 : ¬ j = 0 := by omega
            have e1 : ¬ j = 1 := by omega
            simp only [va_up, if_neg e0, if_neg e1]
          · rfl
          · rfl
          · unfold rwW; rw [if_neg c42]; rfl
          · rw [hbad] at hb; cases hb
        · refine aw rfl rfl ?_
          refine aw_cv (d1 := 4) (L1 := 91) rfl rfl zg_40 rfl rfl (by decide) (by decide) (Nat.le_of_ble_eq_true rfl) (c_X4_layRow (i := (go Y s).1) hg hz hN1 hi4 h1 hpl hnu hl8 (by first | omega | (show T.1 1 < 4; omega)) (fun f f1 f2 => ?_))
          refine aw_ne rfl (fun c74 => ?_) (fun c74 => ?_)
          · refine aw rfl rfl ?_
            refine aw_getfE rfl zg_40 rfl (congrArg Value.ref hz) ?_
            refine aw rfl rfl ?_
            refine aw_getf rfl zs_0 rfl ?_
            refine aw_c (v := nI 1) rfl (by decide) ?_
            refine aw_addn rfl ?_
            refine aw_putfU rfl zs_0 rfl rfl zq_88 zt_0_1 ?_
            refine aw rfl rfl ?_
            refine aw_cv (d1 := 0) (L1 := 0) rfl rfl zg_40 rfl rfl (by decide) (by decide) (Nat.le_of_ble_eq_true rfl) (c_X4_take hR1 (fun K3 hR3 hK3 => ?_))
            have hok : okR (Y.2.2.2 (go Y s).1) = true := by cases e : okR (Y.2.2.2 (go Y s).1) with | true => rfl | false => rw [e] at c74; exact absurd rfl c74
            have hbad : rwX (rwW (T.1 1) (T.1 0) (Y.2.2.2 (go Y s).1)) (Y.2.2.2 (go Y s).1) = false := by unfold rwX rwW; rw [if_neg c42, hok]; simp; exact c67
            have hG4 : (go Y (go Y s)).1 ≤ 400 := go_le hi4
            refine aw_vret rfl rfl (q0 (by omega) K3 _ (by
                have e9 : rwS Y (T.1 1) (T.1 0) s = go Y (go Y s) := by unfold rwS; rw [em, if_neg (by rw [hbad]; decide)]
                rw [e9]; exact hR3)
                (hK1.tr hK3) (fun j hj => ?_) (fun j hj => ?_) (fun _ => ⟨?_, ?_, fun hb => ?_⟩))
            · have e0 : ¬ j = 0 := by omega
              have e1 : ¬ j = 1 := by omega
              simp only [va_up, if_neg e0, if_neg e1]
            · exact vu_ot (show ¬ j = 0 by omega)
            · rfl
            · unfold rwW; rw [if_neg c42]; rfl
            · exact ⟨f1, f2⟩
          · refine aw rfl rfl ?_
            refine aw_c (v := nI 6) rfl (by decide) ?_
            refine aw rfl rfl ?_
            refine aw_getfE rfl zg_40 rfl (congrArg Value.int hpl) ?_
            refine aw_cv (d1 := 0) (L1 := 0) rfl rfl zg_40 rfl rfl (by decide) (by decide) (Nat.le_of_ble_eq_true rfl) (c_failLate hR1 hgf (by decide) hp2 (fun K3 hR3 hK3 => ?_))
            refine aw rfl rfl ?_
            refine aw_getfE rfl zg_40 rfl (congrArg Value.ref hz) ?_
            refine aw rfl rfl ?_
            refine aw_getf rfl zs_0 rfl ?_
            refine aw_c (v := nI 1) rfl (by decide) ?_
            refine aw_addn rfl ?_
            refine aw_putfU rfl zs_0 rfl rfl zq_88 zt_0_1 ?_
            refine aw rfl rfl ?_
            refine aw_cv (d1 := 0) (L1 := 0) rfl rfl zg_40 rfl rfl (by decide) (by decide) (Nat.le_of_ble_eq_true rfl) (c_X4_take hR3 (fun K4 hR4 hK4 => ?_))
            have hok : okR (Y.2.2.2 (go Y s).1) = false := by cases e : okR (Y.2.2.2 (go Y s).1) with | false => rfl | true => rw [e] at c74; exact absurd c74 (by decide)
            have hbad : rwX (rwW (T.1 1) (T.1 0) (Y.2.2.2 (go Y s).1)) (Y.2.2.2 (go Y s).1) = true := by unfold rwX; rw [hok]; simp
            have hG4 : (go Y (go Y s)).1 ≤ 400 := go_le hi4
            refine aw_vret rfl rfl (q0 (by omega) K4 _ (by
                have e9 : rwS Y (T.1 1) (T.1 0) s = wr 6 (Y.2.1 (go Y s).1) (go Y (go Y s)) := by unfold rwS; rw [em, if_pos hbad]
                rw [e9]; exact (hR4).cg (by rw [wr_0.2]; exact hG4) go_wr.1.symm go_wr.2)
                ((hK1.tr hK3).tr hK4) (fun j hj => ?_) (fun j hj => ?_) (fun _ => ⟨?_, ?_, fun hb => ?_⟩))
            · have e0 : ¬ j = 0 := by omega
              have e1 : ¬ j = 1 := by omega
              simp only [va_up, if_neg e0, if_neg e1]
            · exact vu_ot (show ¬ j = 0 by omega)
            · rfl
            · unfold rwW; rw [if_neg c42]; rfl
            · rw [hbad] at hb; cases hb
      · refine aw rfl rfl ?_
        refine aw_getfE rfl zg_40 rfl (congrArg Value.ref hz) ?_
        refine aw rfl rfl ?_
        refine aw_getfE rfl zg_40 rfl (congrArg Value.int hnu) ?_
        refine aw_putfU rfl zs_0 rfl rfl zq_88 zt_0_0 ?_
        refine aw rfl rfl ?_
        refine aw_getfE rfl zg_40 rfl (congrArg Value.int hnu) ?_
        refine aw rfl rfl ?_
        refine aw_getfE rfl zg_40 rfl (congrArg Value.ref hz) ?_
        refine aw_getfE rfl zs_0 rfl (congrArg Value.int (show _ = nI (Y.2.2.2 (go Y s).1).length from rfl)) ?_
        refine aw_inen rfl (fun c67 => ?_) (fun c67 => ?_)
        · refine aw rfl rfl ?_
          refine aw_c (v := nI 6) rfl (by decide) ?_
          refine aw rfl rfl ?_
          refine aw_getfE rfl zg_40 rfl (congrArg Value.int hpl) ?_
          refine aw_cv (d1 := 0) (L1 := 0) rfl rfl zg_40 rfl rfl (by decide) (by decide) (Nat.le_of_ble_eq_true rfl) (c_failLate hR1 hgf (by decide) hp2 (fun K3 hR3 hK3 => ?_))
          refine aw rfl rfl ?_
          refine aw_getfE rfl zg_40 rfl (congrArg Value.ref hz) ?_
          refine aw rfl rfl ?_
          refine aw_getf rfl zs_0 rfl ?_
          refine aw_c (v := nI 1) rfl (by decide) ?_
          refine aw_addn rfl ?_
          refine aw_putfU rfl zs_0 rfl rfl zq_88 zt_0_1 ?_
          refine aw rfl rfl ?_
          refine aw_cv (d1 := 0) (L1 := 0) rfl rfl zg_40 rfl rfl (by decide) (by decide) (Nat.le_of_ble_eq_true rfl) (c_X4_take hR3 (fun K4 hR4 hK4 => ?_))
          exact absurd rfl c67
        · refine aw rfl rfl ?_
          refine aw_cv (d1 := 4) (L1 := 91) rfl rfl zg_40 rfl rfl (by decide) (by decide) (Nat.le_of_ble_eq_true rfl) (c_X4_layRow (i := (go Y s).1) hg hz hN1 hi4 h1 hpl hnu hl8 (by first | omega | (show T.1 1 < 4; omega)) (fun f f1 f2 => ?_))
          refine aw_ne rfl (fun c74 => ?_) (fun c74 => ?_)
          · refine aw rfl rfl ?_
            refine aw_getfE rfl zg_40 rfl (congrArg Value.ref hz) ?_
            refine aw rfl rfl ?_
            refine aw_getf rfl zs_0 rfl ?_
            refine aw_c (v := nI 1) rfl (by decide) ?_
            refine aw_addn rfl ?_
            refine aw_putfU rfl zs_0 rfl rfl zq_88 zt_0_1 ?_
            refine aw rfl rfl ?_
            refine aw_cv (d1 := 0) (L1 := 0) rfl rfl zg_40 rfl rfl (by decide) (by decide) (Nat.le_of_ble_eq_true rfl) (c_X4_take hR1 (fun K3 hR3 hK3 => ?_))
            have hok : okR (Y.2.2.2 (go Y s).1) = true := by cases e : okR (Y.2.2.2 (go Y s).1) with | true => rfl | false => rw [e] at c74; exact absurd rfl c74
            have hbad : rwX (rwW (T.1 1) (T.1 0) (Y.2.2.2 (go Y s).1)) (Y.2.2.2 (go Y s).1) = false := by unfold rwX rwW; rw [if_pos c42, hok]; simp
            have hG4 : (go Y (go Y s)).1 ≤ 400 := go_le hi4
            refine aw_vret rfl rfl (q0 (by omega) K3 _ (by
                have e9 : rwS Y (T.1 1) (T.1 0) s = go Y (go Y s) := by unfold rwS; rw [em, if_neg (by rw [hbad]; decide)]
                rw [e9]; exact hR3)
                (hK1.tr hK3) (fun j hj => ?_) (fun j hj => ?_) (fun _ => ⟨?_, ?_, fun hb => ?_⟩))
            · have e0 : ¬ j = 0 := by omega
              have e1 : ¬ j = 1 := by omega
              simp only [va_up, if_neg e0, if_neg e1]
            · exact vu_ot (show ¬ j = 0 by omega)
            · rfl
            · unfold rwW; rw [if_pos c42]; rfl
            · exact ⟨f1, f2⟩
          · refine aw rfl rfl ?_
            refine aw_c (v := nI 6) rfl (by decide) ?_
            refine aw rfl rfl ?_
            refine aw_getfE rfl zg_40 rfl (congrArg Value.int hpl) ?_
            refine aw_cv (d1 := 0) (L1 := 0) rfl rfl zg_40 rfl rfl (by decide) (by decide) (Nat.le_of_ble_eq_true rfl) (c_failLate hR1 hgf (by decide) hp2 (fun K3 hR3 hK3 => ?_))
            refine aw rfl rfl ?_
            refine aw_getfE rfl zg_40 rfl (congrArg Value.ref hz) ?_
            refine aw rfl rfl ?_
            refine aw_getf rfl zs_0 rfl ?_
            refine aw_c (v := nI 1) rfl (by decide) ?_
            refine aw_addn rfl ?_
            refine aw_putfU rfl zs_0 rfl rfl zq_88 zt_0_1 ?_
            refine aw rfl rfl ?_
            refine aw_cv (d1 := 0) (L1 := 0) rfl rfl zg_40 rfl rfl (by decide) (by decide) (Nat.le_of_ble_eq_true rfl) (c_X4_take hR3 (fun K4 hR4 hK4 => ?_))
            have hok : okR (Y.2.2.2 (go Y s).1) = false := by cases e : okR (Y.2.2.2 (go Y s).1) with | false => rfl | true => rw [e] at c74; exact absurd c74 (by decide)
            have hbad : rwX (rwW (T.1 1) (T.1 0) (Y.2.2.2 (go Y s).1)) (Y.2.2.2 (go Y s).1) = true := by unfold rwX; rw [hok]; simp
            have hG4 : (go Y (go Y s)).1 ≤ 400 := go_le hi4
            refine aw_vret rfl rfl (q0 (by omega) K4 _ (by
                have e9 : rwS Y (T.1 1) (T.1 0) s = wr 6 (Y.2.1 (go Y s).1) (go Y (go Y s)) := by unfold rwS; rw [em, if_pos hbad]
                rw [e9]; exact (hR4).cg (by rw [wr_0.2]; exact hG4) go_wr.1.symm go_wr.2)
                ((hK1.tr hK3).tr hK4) (fun j hj => ?_) (fun j hj => ?_) (fun _ => ⟨?_, ?_, fun hb => ?_⟩))
            · have e0 : ¬ j = 0 := by omega
              have e1 : ¬ j = 1 := by omega
              simp only [va_up, if_neg e0, if_neg e1]
            · exact vu_ot (show ¬ j = 0 by omega)
            · rfl
            · unfold rwW; rw [if_pos c42]; rfl
            · rw [hbad] at hb; cases hb
    · refine aw rfl rfl ?_
      refine aw_c (v := nI 1) rfl (by decide) ?_
      refine aw_cv (d1 := 0) (L1 := 0) rfl rfl zg_40 rfl rfl (by decide) (by decide) (Nat.le_of_ble_eq_true rfl) (c_X4_fail hR1 (by decide) (fun K2 hR2 hK2 => ?_))
      exact aw_vret rfl rfl (q0 (by omega) K2 T (by
    have e9 : rwS Y (T.1 1) (T.1 0) s = fl Y 1 (go Y s) := by
      have em : mu Y 1 (go Y s) = fl Y 1 (go Y s) := by
        by_cases hgf : (go Y s).2.1.1 = 0
        · unfold mu; rw [if_pos ⟨hgf, fun w => c26 ((tk_name (hR1.2.2.2.2.1 hgf).2.1).mpr w)⟩]
        · rw [mu_f hgf, fl_f hgf]
      unfold rwS
      rw [em, wr_f (fl_0 (by decide))]
      split <;> rfl
    rw [e9]; exact hR2) (hK1.tr hK2) (fun _ _ => rfl) (fun _ _ => rfl) (fun w => absurd w (by
    have em : mu Y 1 (go Y s) = fl Y 1 (go Y s) := by
      by_cases hgf : (go Y s).2.1.1 = 0
      · unfold mu; rw [if_pos ⟨hgf, fun w => c26 ((tk_name (hR1.2.2.2.2.1 hgf).2.1).mpr w)⟩]
      · rw [mu_f hgf, fl_f hgf]
    unfold rwS
    rw [em, wr_f (fl_0 (by decide))]
    split <;> exact fl_0 (by decide))))
  · refine aw rfl rfl ?_
    refine aw_c (v := nI 2) rfl (by decide) ?_
    refine aw_cv (d1 := 0) (L1 := 0) rfl rfl zg_40 rfl rfl (by decide) (by decide) (Nat.le_of_ble_eq_true rfl) (c_X4_fail hR (by decide) (fun K1 hR1 hK1 => ?_))
    exact aw_vret rfl rfl (q1 (by omega) K1 hR1 hK1)
end C1
