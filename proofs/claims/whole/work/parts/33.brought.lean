/-! ===== the reference: what comes of a kick, of a wait ===== -/
section M1
variable {g : am_H} {k : Mk} {v pl : Nat → Int32} {br lo : Int32} {c ct pr pt cm bf bt : Nat → Int32}
variable {lv : Nat} {T : Sd} {W : Nat → Lw}
theorem n_a2_m {T : Sd} {LW : LWt} {l way : Nat} {x : Int32} (h1 : 1 ≤ T.1 0) (h2 : T.1 0 ≤ 8) : ∃ a : Nat, a < T.1 0 ∧ n_a2 T LW l way x = nI a ∧ ((n_a1 T LW l way x < 0 ∧ a = 0) ∨ (nI (T.1 0) ≤ n_a1 T LW l way x ∧ a = T.1 0 - 1) ∨ (¬ n_a1 T LW l way x < 0 ∧ n_a1 T LW l way x = nI a)) := by
  unfold n_a2
  have e : nI (T.1 0) - nI 1 = nI (T.1 0 - 1) := pk_sub h1
  rw [e]
  generalize n_a1 T LW l way x = y
  by_cases h0 : y < 0
  · have h3 : y < nI (T.1 0 - 1) := Int32.lt_of_lt_of_le h0 (nI_le (a := 0) (Nat.zero_le _) (by omega))
    rw [if_pos h3, if_neg (show ¬ nI 0 < y from fun z => absurd (Int32.lt_trans z h0) Int32.lt_irrefl)]
    exact ⟨0, by omega, rfl, Or.inl ⟨h0, rfl⟩⟩
  · obtain ⟨j, hj, rfl⟩ := nI_of h0
    by_cases h3 : j < T.1 0 - 1
    · rw [if_pos (nI_lt h3 (by omega))]
      by_cases h4 : j = 0
      · subst h4
        rw [if_neg (fun z => absurd z Int32.lt_irrefl)]
        exact ⟨0, by omega, rfl, Or.inr (Or.inr ⟨h0, rfl⟩)⟩
      · rw [if_pos (nI_lt (by omega) (by omega))]
        exact ⟨j, by omega, rfl, Or.inr (Or.inr ⟨h0, rfl⟩)⟩
    · rw [if_neg (fun z => h3 ((nI_ltI (by omega) (by omega)).mp z))]
      have h5 : (if nI 0 < nI (T.1 0 - 1) then nI (T.1 0 - 1) else nI 0) = nI (T.1 0 - 1) := by
        by_cases h6 : T.1 0 - 1 = 0
        · rw [h6, if_neg (fun z => absurd z Int32.lt_irrefl)]
        · rw [if_pos (nI_lt (by omega) (by omega))]
      rw [h5]
      by_cases h7 : j = T.1 0 - 1
      · subst h7
        exact ⟨T.1 0 - 1, by omega, rfl, Or.inr (Or.inr ⟨h0, rfl⟩)⟩
      · exact ⟨T.1 0 - 1, by omega, rfl, Or.inr (Or.inl ⟨nI_le (by omega) (by omega), rfl⟩)⟩
theorem lie_in {T : Sd} {l : Nat} (h : lieOK T l) : l < 96 := h.1
theorem n_out {x : Int32} {n : Nat} (h1 : 1 ≤ n) (h2 : n < 2147483648) (h : ¬ nI 0 ≤ x ∨ ¬ x ≤ nI (n - 1)) : x < 0 ∨ nI n ≤ x := by
  by_cases h0 : x < 0
  · exact Or.inl h0
  · refine Or.inr ?_
    rcases h with h | h
    · exact absurd (Int32.not_lt.mp h0) h
    · obtain ⟨j, hj, rfl⟩ := nI_of h0
      refine nI_le ?_ hj
      have h3 : ¬ j ≤ n - 1 := fun z => h (nI_le z (by omega))
      omega
theorem c_X11_isPlace {Q : Option Value → am_H → Prop} (hM : MR k lv T W) (hG : GS T) {x y : Int32} (q1 : ∀ a e : Nat, x = nI a → y = nI e → a < T.1 0 → e < T.1 1 → Q (some (.int (nI 1))) (mh g k v pl br lo c ct pr pt cm bf bt)) (q0 : (x < 0 ∨ nI (T.1 0) ≤ x ∨ y < 0 ∨ nI (T.1 1) ≤ y) → Q (some (.int (nI 0))) (mh g k v pl br lo c ct pr pt cm bf bt)) : AC am_P 1 22 229 [.ref 121, .int x, .int y] (mh g k v pl br lo c ct pr pt cm bf bt) Q := by
  refine AC.of (ls := [_, _, _]) rfl ?_
  have hM0 := hM
  have hG0 := hG
  obtain ⟨m0, m1, mr, mw, mf, mk, mli, mt, ms, msq, moc, mwy, msp, mlw⟩ := hM
  obtain ⟨⟨g0, g0x⟩, ⟨g1, g1x⟩, ⟨g2, g2x⟩, ⟨g3, g3x⟩, g4, ⟨g5, g5x⟩, g6, gsq, goc, gwt, gsp, gfr⟩ := hG
  refine aw rfl rfl ?_
  refine aw_c (v := nI 0) rfl (by decide) ?_
  refine aw rfl rfl ?_
  refine aw_getf rfl mg_121 rfl ?_
  refine aw rfl rfl ?_
  refine aw_getfE rfl mg_121 rfl (congrArg Value.int m1) ?_
  refine aw_ialdE rfl mg_131 rfl (by omega) (by decide) mw ?_
  refine aw_c (v := nI 1) rfl (by decide) ?_
  refine aw_subn rfl (by omega) ?_
  refine aw_cs (d1 := 0) (L1 := 0) rfl rfl (by decide) (by decide) (Nat.le_of_ble_eq_true rfl) (c_X11_in (fun p1 p2 => ?_) (fun p => ?_))
  · refine aw_eq rfl (fun c => absurd c (by decide)) (fun _ => ?_)
    refine aw rfl rfl ?_
    refine aw_c (v := nI 0) rfl (by decide) ?_
    refine aw rfl rfl ?_
    refine aw_getf rfl mg_121 rfl ?_
    refine aw rfl rfl ?_
    refine aw_getfE rfl mg_121 rfl (congrArg Value.int m1) ?_
    refine aw_ialdE rfl mg_130 rfl (by omega) (by decide) mr ?_
    refine aw_c (v := nI 1) rfl (by decide) ?_
    refine aw_subn rfl (by omega) ?_
    refine aw_cs (d1 := 0) (L1 := 0) rfl rfl (by decide) (by decide) (Nat.le_of_ble_eq_true rfl) (c_X11_in (fun p3 p4 => ?_) (fun p => ?_))
    · refine aw_eq rfl (fun c => absurd c (by decide)) (fun _ => ?_)
      refine aw_c (v := nI 1) rfl (by decide) ?_
      refine aw rfl rfl ?_
      exact aw_iret rfl rfl (by obtain ⟨a, ha, rfl⟩ := nI_of (Int32.not_lt.mpr p1); obtain ⟨e, he, rfl⟩ := nI_of (Int32.not_lt.mpr p3); exact q1 a e rfl rfl (by have := (nI_leI (by omega) (by omega)).mp p2; omega) (by have := (nI_leI (by omega) (by omega)).mp p4; omega))
    · refine aw_eq rfl (fun _ => ?_) (fun c => absurd (by decide) c)
      refine aw_c (v := nI 0) rfl (by decide) ?_
      exact aw_iret rfl rfl (q0 (Or.inr (Or.inr (n_out (by omega) (by omega) p))))
  · refine aw_eq rfl (fun _ => ?_) (fun c => absurd (by decide) c)
    refine aw_c (v := nI 0) rfl (by decide) ?_
    exact aw_iret rfl rfl (q0 ((n_out (by omega) (by omega) p).elim Or.inl (fun z => Or.inr (Or.inl z))))
theorem c_X11_isSquare {Q : Option Value → am_H → Prop} (hM : MR k lv T W) (hG : GS T) {l w : Nat} (hl : l ≤ 96) (hw : w < 4) (q1 : lieOK T l → Q (some (.int (nI 1))) (mh g k v pl br lo c ct pr pt cm bf bt)) (q0 : ¬ lieOK T l → Q (some (.int (nI 0))) (mh g k v pl br lo c ct pr pt cm bf bt)) : AC am_P 2 43 257 [.ref 121, .int (nI (4 * l + w))] (mh g k v pl br lo c ct pr pt cm bf bt) Q := by
  refine AC.of (ls := [_, _]) rfl ?_
  have hM0 := hM
  have hG0 := hG
  obtain ⟨m0, m1, mr, mw, mf, mk, mli, mt, ms, msq, moc, mwy, msp, mlw⟩ := hM
  obtain ⟨⟨g0, g0x⟩, ⟨g1, g1x⟩, ⟨g2, g2x⟩, ⟨g3, g3x⟩, g4, ⟨g5, g5x⟩, g6, gsq, goc, gwt, gsp, gfr⟩ := hG
  refine aw rfl rfl ?_
  refine aw_cs (d1 := 0) (L1 := 0) rfl rfl (by decide) (by decide) (Nat.le_of_ble_eq_true rfl) (c_al (by omega) (by omega) ?_)
  refine aw rfl rfl ?_
  refine aw_getf rfl mg_121 rfl ?_
  refine aw rfl rfl ?_
  refine aw_getfE rfl mg_121 rfl (congrArg Value.int m1) ?_
  refine aw_ialdE rfl mg_131 rfl (by omega) (by decide) mw ?_
  refine aw_igen rfl (fun c13 => ?_) (fun c13 => ?_)
  · refine aw_c (v := nI 0) rfl (by decide) ?_
    exact aw_iret rfl rfl (q0 (fun z => absurd z.2.1 (by omega)))
  · refine aw rfl rfl ?_
    refine aw_cs (d1 := 0) (L1 := 0) rfl rfl (by decide) (by decide) (Nat.le_of_ble_eq_true rfl) (c_ac (by omega) (by omega) ?_)
    refine aw rfl rfl ?_
    refine aw_getf rfl mg_121 rfl ?_
    refine aw rfl rfl ?_
    refine aw_getfE rfl mg_121 rfl (congrArg Value.int m1) ?_
    refine aw_ialdE rfl mg_130 rfl (by omega) (by decide) mr ?_
    refine aw_igen rfl (fun c29 => ?_) (fun c29 => ?_)
    · refine aw_c (v := nI 0) rfl (by decide) ?_
      exact aw_iret rfl rfl (q0 (fun z => absurd z.2.2.1 (by omega)))
    · refine aw rfl rfl ?_
      refine aw_cs (d1 := 0) (L1 := 0) rfl rfl (by decide) (by decide) (Nat.le_of_ble_eq_true rfl) (c_fc (by omega) (by omega) ?_)
      refine aw rfl rfl ?_
      refine aw_getf rfl mg_121 rfl ?_
      refine aw rfl rfl ?_
      refine aw_getfE rfl mg_121 rfl (congrArg Value.int m1) ?_
      refine aw_ialdE rfl mg_133 rfl (by omega) (by decide) mf ?_
      refine aw_igen rfl (fun c45 => ?_) (fun c45 => ?_)
      · refine aw_c (v := nI 0) rfl (by decide) ?_
        exact aw_iret rfl rfl (q0 (fun z => absurd z.2.2.2.1 (by omega)))
      · refine aw rfl rfl ?_
        refine aw rfl rfl ?_
        refine aw_cv (d1 := 1) (L1 := 22) rfl rfl mg_121 rfl rfl (by decide) (by decide) (Nat.le_of_ble_eq_true rfl) (c_so hM0 hG0 (by omega) hw (by omega) (by omega) ?_)
        refine aw_c (v := nI 4) rfl (by decide) ?_
        refine aw_ieq rfl (fun c54 => ?_) (fun c54 => ?_)
        · refine aw_c (v := nI 0) rfl (by decide) ?_
          exact aw_iret rfl rfl (q0 (fun z => z.2.2.2.2.1 c54))
        · refine aw rfl rfl ?_
          refine aw rfl rfl ?_
          refine aw_cv (d1 := 1) (L1 := 22) rfl rfl mg_121 rfl rfl (by decide) (by decide) (Nat.le_of_ble_eq_true rfl) (c_so hM0 hG0 (by omega) hw (by omega) (by omega) ?_)
          refine aw_c (v := nI 5) rfl (by decide) ?_
          refine aw_ieq rfl (fun c63 => ?_) (fun c63 => ?_)
          · refine aw_c (v := nI 0) rfl (by decide) ?_
            exact aw_iret rfl rfl (q0 (fun z => z.2.2.2.2.2 c63))
          · refine aw_c (v := nI 1) rfl (by decide) ?_
            refine aw rfl rfl ?_
            exact aw_iret rfl rfl (q1 ⟨by omega, by omega, by omega, by omega, c54, c63⟩)
def m_ck (T : Sd) (l j : Nat) : Prop := ¬ T.2 0 (l / 3) = nI 3 ∨ oc T j = 1
theorem c_X11_canKick {Q : Option Value → am_H → Prop} (hM : MR k lv T W) (hG : GS T) {l w j : Nat} (hl : lieOK T l) (hw : w < 4) (hj : j < T.1 3) (q1 : m_ck T l j → Q (some (.int (nI 1))) (mh g k v pl br lo c ct pr pt cm bf bt)) (q0 : ¬ m_ck T l j → Q (some (.int (nI 0))) (mh g k v pl br lo c ct pr pt cm bf bt)) : AC am_P 2 43 237 [.ref 121, .int (nI (4 * l + w)), .int (nI j)] (mh g k v pl br lo c ct pr pt cm bf bt) Q := by
  refine AC.of (ls := [_, _, _]) rfl ?_
  have hM0 := hM
  have hG0 := hG
  obtain ⟨m0, m1, mr, mw, mf, mk, mli, mt, ms, msq, moc, mwy, msp, mlw⟩ := hM
  obtain ⟨⟨g0, g0x⟩, ⟨g1, g1x⟩, ⟨g2, g2x⟩, ⟨g3, g3x⟩, g4, ⟨g5, g5x⟩, g6, gsq, goc, gwt, gsp, gfr⟩ := hG
  have hl96 := hl.1
  have hx := goc j hj
  have hoc : k.2.1 27 (4 * lv + j) = nI (oc T j) := (moc j hj).trans hx.1
  have hx1 := hx.2.1
  have hx2 := hx.2.2.1
  refine aw rfl rfl ?_
  refine aw rfl rfl ?_
  refine aw_cv (d1 := 1) (L1 := 22) rfl rfl mg_121 rfl rfl (by decide) (by decide) (Nat.le_of_ble_eq_true rfl) (c_so hM0 hG0 (by omega) hw hl.2.1 hl.2.2.1 ?_)
  refine aw_c (v := nI 3) rfl (by decide) ?_
  refine aw_ine rfl (fun c6 => ?_) (fun c6 => ?_)
  · refine aw_c (v := nI 1) rfl (by decide) ?_
    refine aw rfl rfl ?_
    exact aw_iret rfl rfl (q1 (Or.inl c6))
  · refine aw rfl rfl ?_
    refine aw_getf rfl mg_121 rfl ?_
    refine aw_c (v := nI 4) rfl (by decide) ?_
    refine aw rfl rfl ?_
    refine aw_getfE rfl mg_121 rfl (congrArg Value.int m1) ?_
    refine aw_muln rfl ?_
    refine aw rfl rfl ?_
    refine aw_addn rfl ?_
    refine aw_ialdE rfl mg_135 rfl (by omega) (by decide) hoc ?_
    refine aw_c (v := nI 1) rfl (by decide) ?_
    refine aw_inen rfl (fun c23 => ?_) (fun c23 => ?_)
    · refine aw_c (v := nI 0) rfl (by decide) ?_
      exact aw_iret rfl rfl (q0 (fun z => z.elim (fun z => z c6) (fun z => c23 z)))
    · refine aw_c (v := nI 1) rfl (by decide) ?_
      refine aw rfl rfl ?_
      exact aw_iret rfl rfl (q1 (Or.inr c23))
theorem n_land_i {T : Sd} {LW : LWt} {l : Nat} {x : Int32} : n_land T LW l 24 x = if n_car T LW (l / 3) (x + nI (T.1 5)) then -1 else nI l := n_land_w rfl
theorem c_X11_waited {Q : Option Value → am_H → Prop} (hM : MR k lv T W) (hG : GS T) {l w : Nat} {x : Int32} (hl : lieOK T l) (hw : w < 4) (q1 : n_land T (lwf W) l 24 x = -1 → ∀ v pl br, Q (some (.int (nI (lsg l w)))) (mh g k v pl br lo c ct pr pt cm bf bt)) (q0 : n_land T (lwf W) l 24 x = nI l → ∀ v pl br, Q (some (.int (nI (4 * l + w)))) (mh g k v pl br lo c ct pr pt cm bf bt)) : AC am_P 3 75 247 [.ref 121, .int (nI (4 * l + w)), .int x] (mh g k v pl br lo c ct pr pt cm bf bt) Q := by
  refine AC.of (ls := [_, _, _]) rfl ?_
  have hM0 := hM
  have hG0 := hG
  obtain ⟨m0, m1, mr, mw, mf, mk, mli, mt, ms, msq, moc, mwy, msp, mlw⟩ := hM
  obtain ⟨⟨g0, g0x⟩, ⟨g1, g1x⟩, ⟨g2, g2x⟩, ⟨g3, g3x⟩, g4, ⟨g5, g5x⟩, g6, gsq, goc, gwt, gsp, gfr⟩ := hG
  have hl96 := hl.1
  have ha := hl.2.1
  have he := hl.2.2.1
  rw [n_land_i] at q1 q0
  have el : l / 3 / 8 * 8 + l / 3 % 8 = l / 3 := by omega
  refine aw rfl rfl ?_
  refine aw rfl rfl ?_
  refine aw_cs (d1 := 0) (L1 := 0) rfl rfl (by decide) (by decide) (Nat.le_of_ble_eq_true rfl) (c_al (by omega) (by omega) ?_)
  refine aw rfl rfl ?_
  refine aw_cs (d1 := 0) (L1 := 0) rfl rfl (by decide) (by decide) (Nat.le_of_ble_eq_true rfl) (c_ac (by omega) (by omega) ?_)
  refine aw rfl rfl ?_
  refine aw rfl rfl ?_
  refine aw_getf rfl mg_121 rfl ?_
  refine aw rfl rfl ?_
  refine aw_getfE rfl mg_121 rfl (congrArg Value.int m1) ?_
  refine aw_ialdE rfl mg_143 rfl (by omega) (by decide) mt ?_
  refine aw rfl rfl ?_
  refine aw_cv (d1 := 2) (L1 := 52) rfl rfl mg_121 rfl rfl (by decide) (by decide) (Nat.le_of_ble_eq_true rfl) (c_X11_isBarred hM0 hG0 ha he (fun z v pl br => ?_) (fun z v pl br => ?_))
  · refine aw_eq rfl (fun c => absurd c (by decide)) (fun _ => ?_)
    refine aw rfl rfl ?_
    refine aw_cs (d1 := 0) (L1 := 0) rfl rfl (by decide) (by decide) (Nat.le_of_ble_eq_true rfl) (c_X11_losing (by omega) (by omega) ?_)
    refine aw rfl rfl ?_
    exact aw_iret rfl rfl (q1 (if_pos (by rw [el] at z; exact z)) _ _ _)
  · refine aw_eq rfl (fun _ => ?_) (fun c => absurd (by decide) c)
    refine aw rfl rfl ?_
    exact aw_iret rfl rfl (q0 (if_neg (by rw [el] at z; exact z)) _ _ _)
theorem n_land_out {T : Sd} {LW : LWt} {l way a : Nat} {x : Int32} (hG : GS T) (hw : ¬ way = 24) (hA : n_a2 T LW l way x = nI a) (ha : a < T.1 0) (hC : n_c1 T LW l way x < 0 ∨ nI (T.1 1) ≤ n_c1 T LW l way x) : n_land T LW l way x = -1 := by
  obtain ⟨⟨g0, g0x⟩, ⟨g1, g1x⟩, ⟨g2, g2x⟩, ⟨g3, g3x⟩, g4, ⟨g5, g5x⟩, g6, gsq, goc, gwt, gsp, gfr⟩ := hG
  by_cases h1 : n_c1 T LW l way x < 0 ∨ nI 4 ≤ n_c1 T LW l way x
  · exact n_land_o hw h1
  · obtain ⟨e, he, ee⟩ := nI_of (fun z => h1 (Or.inl z))
    have h4 : e < 4 := by
      rcases Nat.lt_or_ge e 4 with z | z
      · exact z
      · exact absurd (Or.inr (by rw [ee]; exact nI_le z he)) h1
    have h5 : T.1 1 ≤ e := by
      rcases hC with z | z
      · exact absurd (Or.inl z) h1
      · rw [ee] at z
        exact (nI_leI (by omega) he).mp z
    have h6 : T.2 0 (e * 8 + a) = -1 := (gsq (e * 8 + a) (by omega)).2 (by omega)
    rw [n_land_k hw hA ee (by omega) h4, if_neg (by rw [h6]; decide), if_pos (Or.inl h6)]
theorem n_land_wall {T : Sd} {LW : LWt} {l way a e : Nat} {x : Int32} (hw : ¬ way = 24) (hA : n_a2 T LW l way x = nI a) (hC : n_c1 T LW l way x = nI e) (ha : a < 8) (he : e < 4) (h : T.2 0 (e * 8 + a) = nI 5) : n_land T LW l way x = nI (l / 3 * 3 + n_tn T l way) := by
  rw [n_land_k hw hA hC ha he, if_pos h]
theorem n_land_gut {T : Sd} {LW : LWt} {l way a e : Nat} {x : Int32} (hw : ¬ way = 24) (hA : n_a2 T LW l way x = nI a) (hC : n_c1 T LW l way x = nI e) (ha : a < 8) (he : e < 4) (h : T.2 0 (e * 8 + a) = nI 4) : n_land T LW l way x = -1 := by
  rw [n_land_k hw hA hC ha he, if_neg (by rw [h]; decide), if_pos (Or.inr h)]
theorem n_land_car {T : Sd} {LW : LWt} {l way a e : Nat} {x : Int32} (hw : ¬ way = 24) (hA : n_a2 T LW l way x = nI a) (hC : n_c1 T LW l way x = nI e) (ha : a < 8) (he : e < 4) (h5 : ¬ T.2 0 (e * 8 + a) = nI 5) (h6 : ¬ T.2 0 (e * 8 + a) = nI 6) (h : n_car T LW (e * 8 + a) (x + nI (T.1 5))) : n_land T LW l way x = -1 := by
  rw [n_land_k hw hA hC ha he, if_neg h5]
  by_cases h7 : T.2 0 (e * 8 + a) = -1 ∨ T.2 0 (e * 8 + a) = nI 4
  · rw [if_pos h7]
  · rw [if_neg h7, if_pos ⟨h6, h⟩]
theorem n_land_on {T : Sd} {LW : LWt} {l way a e : Nat} {x : Int32} (hw : ¬ way = 24) (hA : n_a2 T LW l way x = nI a) (hC : n_c1 T LW l way x = nI e) (ha : a < 8) (he : e < 4) (h1 : ¬ T.2 0 (e * 8 + a) = -1) (h4 : ¬ T.2 0 (e * 8 + a) = nI 4) (h5 : ¬ T.2 0 (e * 8 + a) = nI 5) (h : T.2 0 (e * 8 + a) = nI 6 ∨ ¬ n_car T LW (e * 8 + a) (x + nI (T.1 5))) : n_land T LW l way x = nI ((e * 8 + a) * 3 + n_tn T l way) := by
  rw [n_land_k hw hA hC ha he, if_neg h5, if_neg (fun z => z.elim h1 h4), if_neg (fun z => h.elim z.1 (fun w => w z.2))]
theorem lie_wall {T : Sd} {l t : Nat} (hl : lieOK T l) (ht : t < T.1 2) (h3 : T.1 2 ≤ 3) : lieOK T (l / 3 * 3 + t) := by
  obtain ⟨h0, h1, h2, h4, h5, h6⟩ := hl
  have e : (l / 3 * 3 + t) / 3 = l / 3 := by omega
  have e2 : (l / 3 * 3 + t) % 3 = t := by omega
  unfold lieOK
  rw [e, e2]
  exact ⟨by omega, h1, h2, ht, h5, h6⟩
theorem lie_on {T : Sd} {a e t : Nat} (ha : a < T.1 0) (he : e < T.1 1) (ht : t < T.1 2) (h8 : T.1 0 ≤ 8) (h44 : T.1 1 ≤ 4) (h3 : T.1 2 ≤ 3) (h5 : ¬ T.2 0 (e * 8 + a) = nI 4) (h6 : ¬ T.2 0 (e * 8 + a) = nI 5) : lieOK T ((e * 8 + a) * 3 + t) := by
  have e1 : ((e * 8 + a) * 3 + t) / 3 = e * 8 + a := by omega
  have e2 : ((e * 8 + a) * 3 + t) % 3 = t := by omega
  unfold lieOK
  rw [e1, e2]
  exact ⟨by omega, by omega, by omega, ht, h5, h6⟩
set_option maxRecDepth 4000 in
theorem l_brought {Q : Option Value → am_H → Prop} (hM : MR k lv T W) (hG : GS T) {l w j o : Nat} {x : Int32} (hl : lieOK T l) (hw : w < 4) (hj : j < T.1 3) (ho : o < oc T j) (q1 : n_land T (lwf W) l (6 * j + o) x = -1 → ∀ v pl br, Q (some (.int (nI (lsg l w)))) (mh g k v pl br (nI 1) c ct pr pt cm bf bt)) (q0 : ∀ m, n_land T (lwf W) l (6 * j + o) x = nI m → lieOK T m → ∀ v pl br, Q (some (.int (nI (4 * m + w)))) (mh g k v pl br (nI 0) c ct pr pt cm bf bt)) {a : Nat} (ha : a < T.1 0) (hA : n_a2 T (lwf W) l (6 * j + o) x = nI a) {l5 l8 l12 : Option Value} : AW am_P 3 75 239 198 [some (.ref 121), some (.int (nI (4 * l + w))), some (.int (nI j)), some (.int (nI o)), some (.int x), l5, some (.int (nI (l / 3 % 8))), some (.int (nI (l / 3 / 8))), l8, some (.int (nI a)), some (.int (n_c1 T (lwf W) l (6 * j + o) x)), some (.int (nI (n_tn T l (6 * j + o)))), l12] [] (mh g k v pl br lo c ct pr pt cm bf bt) Q := by
  have hM0 := hM
  have hG0 := hG
  obtain ⟨m0, m1, mr, mw, mf, mk, mli, mt, ms, msq, moc, mwy, msp, mlw⟩ := hM
  obtain ⟨⟨g0, g0x⟩, ⟨g1, g1x⟩, ⟨g2, g2x⟩, ⟨g3, g3x⟩, g4, ⟨g5, g5x⟩, g6, gsq, goc, gwt, gsp, gfr⟩ := hG
  have hl96 := hl.1
  have hg := goc j hj
  have ho6 := hg.2.2.1
  have hgo := hg.2.2.2.2 o ho
  obtain ⟨t, ht, et⟩ := hgo.2.2.2
  have hwy := mwy j o hj ho
  have hw24 : ¬ 6 * j + o = 24 := by omega
  have etn : n_tn T l (6 * j + o) = (l % 3 + t) % T.1 2 := by unfold n_tn; rw [et, nI_clamp (by omega)]
  have htn : n_tn T l (6 * j + o) < T.1 2 := by rw [etn]; exact Nat.mod_lt _ (by omega)
  have ew : (4 * l + w) % 4 = w := by omega
  generalize hC : n_c1 T (lwf W) l (6 * j + o) x = C
  refine aw rfl rfl ?_
  refine aw rfl rfl ?_
  refine aw_c (v := nI 0) rfl (by decide) ?_
  refine aw rfl rfl ?_
  refine aw_getf rfl mg_121 rfl ?_
  refine aw rfl rfl ?_
  refine aw_getfE rfl mg_121 rfl (congrArg Value.int m1) ?_
  refine aw_ialdE rfl mg_130 rfl (by omega) (by decide) mr ?_
  refine aw_c (v := nI 1) rfl (by decide) ?_
  refine aw_subn rfl (by omega) ?_
  refine aw_cs (d1 := 0) (L1 := 0) rfl rfl (by decide) (by decide) (Nat.le_of_ble_eq_true rfl) (c_X11_in (fun p1 p2 => ?_) (fun p => ?_))
  · try (obtain ⟨e, he0, rfl⟩ := nI_of (Int32.not_lt.mpr p1); have he : e < T.1 1 := (by have := (nI_leI (by omega) (by omega)).mp p2; omega))
    refine aw_ne rfl (fun _ => ?_) (fun c => absurd c (by decide))
    refine aw_c (v := nI 0) rfl (by decide) ?_
    refine aw_putfU rfl mg_121 rfl rfl (by decide) mp_55 ?_
    refine aw rfl rfl ?_
    refine aw_getf rfl mg_121 rfl ?_
    refine aw_eq rfl (fun _ => ?_) (fun c => absurd (by decide) c)
    refine aw rfl rfl ?_
    refine aw rfl rfl ?_
    refine aw rfl rfl ?_
    refine aw_cv (d1 := 0) (L1 := 0) rfl rfl mg_121 rfl rfl (by decide) (by decide) (Nat.le_of_ble_eq_true rfl) (c_sa hM0 hG0 ha he ?_)
    refine aw_ist (ls' := [_, _, _, _, _, _, _, _, _, _, _, _, _]) rfl rfl ?_
    refine aw rfl rfl ?_
    refine aw_c (v := nI 5) rfl (by decide) ?_
    refine aw_ine rfl (fun c252 => ?_) (fun c252 => ?_)
    · refine aw rfl rfl ?_
      refine aw rfl rfl ?_
      refine aw_c (v := nI 4) rfl (by decide) ?_
      refine aw_ieq rfl (fun c272 => ?_) (fun c272 => ?_)
      · refine aw_c (v := nI 1) rfl (by decide) ?_
        refine aw rfl rfl ?_
        refine aw_putfU rfl mg_121 rfl rfl (by decide) mp_55 ?_
        refine aw rfl rfl ?_
        refine aw_getf rfl mg_121 rfl ?_
        refine aw_eq rfl (fun c => absurd c (by decide)) (fun _ => ?_)
        refine aw rfl rfl ?_
        refine aw_cs (d1 := 0) (L1 := 0) rfl rfl (by decide) (by decide) (Nat.le_of_ble_eq_true rfl) (c_X11_losing (by omega) (by omega) ?_)
        refine aw rfl rfl ?_
        exact aw_iret rfl rfl (q1 (n_land_gut hw24 hA hC (by omega) (by omega) c272) _ _ _)
      · refine aw rfl rfl ?_
        refine aw_c (v := nI 6) rfl (by decide) ?_
        refine aw_ieq rfl (fun c279 => ?_) (fun c279 => ?_)
        · refine aw_c (v := nI 0) rfl (by decide) ?_
          refine aw_putfU rfl mg_121 rfl rfl (by decide) mp_55 ?_
          refine aw rfl rfl ?_
          refine aw_getf rfl mg_121 rfl ?_
          refine aw_eq rfl (fun _ => ?_) (fun c => absurd (by decide) c)
          refine aw rfl rfl ?_
          refine aw rfl rfl ?_
          refine aw rfl rfl ?_
          refine aw rfl rfl ?_
          refine aw_c (v := nI 4) rfl (by decide) ?_
          refine aw_remn rfl (by omega) (by omega) (by omega) ?_
          refine aw_cs (d1 := 0) (L1 := 0) rfl rfl (by decide) (by decide) (Nat.le_of_ble_eq_true rfl) (c_X11_numberOf ?_)
          exact aw_iret rfl rfl (by rw [ew, show ((8 * e + a) * 3 + n_tn T l (6 * j + o)) * 4 + w = 4 * ((e * 8 + a) * 3 + n_tn T l (6 * j + o)) + w by omega]; exact q0 _ (n_land_on hw24 hA hC (by omega) (by omega) (by obtain ⟨z, hz, ez⟩ := (gsq (e * 8 + a) (by omega)).1 (by omega); rw [ez]; exact n_m1 (by omega)) c272 c252 (Or.inl c279)) (lie_on ha he htn g0x g1x g2x c272 c252) _ _ _)
        · refine aw rfl rfl ?_
          refine aw rfl rfl ?_
          refine aw rfl rfl ?_
          refine aw rfl rfl ?_
          refine aw rfl rfl ?_
          refine aw_getf rfl mg_121 rfl ?_
          refine aw rfl rfl ?_
          refine aw_getfE rfl mg_121 rfl (congrArg Value.int m1) ?_
          refine aw_ialdE rfl mg_143 rfl (by omega) (by decide) mt ?_
          refine aw rfl rfl ?_
          refine aw_cv (d1 := 2) (L1 := 52) rfl rfl mg_121 rfl rfl (by decide) (by decide) (Nat.le_of_ble_eq_true rfl) (c_X11_isBarred hM0 hG0 ha he (fun z v pl br => ?_) (fun z v pl br => ?_))
          · refine aw_eq rfl (fun c => absurd c (by decide)) (fun _ => ?_)
            refine aw_c (v := nI 1) rfl (by decide) ?_
            refine aw rfl rfl ?_
            refine aw_putfU rfl mg_121 rfl rfl (by decide) mp_55 ?_
            refine aw rfl rfl ?_
            refine aw_getf rfl mg_121 rfl ?_
            refine aw_eq rfl (fun c => absurd c (by decide)) (fun _ => ?_)
            refine aw rfl rfl ?_
            refine aw_cs (d1 := 0) (L1 := 0) rfl rfl (by decide) (by decide) (Nat.le_of_ble_eq_true rfl) (c_X11_losing (by omega) (by omega) ?_)
            refine aw rfl rfl ?_
            exact aw_iret rfl rfl (q1 (n_land_car hw24 hA hC (by omega) (by omega) c252 c279 z) _ _ _)
          · refine aw_eq rfl (fun _ => ?_) (fun c => absurd (by decide) c)
            refine aw_c (v := nI 0) rfl (by decide) ?_
            refine aw_putfU rfl mg_121 rfl rfl (by decide) mp_55 ?_
            refine aw rfl rfl ?_
            refine aw_getf rfl mg_121 rfl ?_
            refine aw_eq rfl (fun _ => ?_) (fun c => absurd (by decide) c)
            refine aw rfl rfl ?_
            refine aw rfl rfl ?_
            refine aw rfl rfl ?_
            refine aw rfl rfl ?_
            refine aw_c (v := nI 4) rfl (by decide) ?_
            refine aw_remn rfl (by omega) (by omega) (by omega) ?_
            refine aw_cs (d1 := 0) (L1 := 0) rfl rfl (by decide) (by decide) (Nat.le_of_ble_eq_true rfl) (c_X11_numberOf ?_)
            exact aw_iret rfl rfl (by rw [ew, show ((8 * e + a) * 3 + n_tn T l (6 * j + o)) * 4 + w = 4 * ((e * 8 + a) * 3 + n_tn T l (6 * j + o)) + w by omega]; exact q0 _ (n_land_on hw24 hA hC (by omega) (by omega) (by obtain ⟨z, hz, ez⟩ := (gsq (e * 8 + a) (by omega)).1 (by omega); rw [ez]; exact n_m1 (by omega)) c272 c252 (Or.inr z)) (lie_on ha he htn g0x g1x g2x c272 c252) _ _ _)
    · refine aw rfl rfl ?_
      refine aw rfl rfl ?_
      refine aw rfl rfl ?_
      refine aw rfl rfl ?_
      refine aw_c (v := nI 4) rfl (by decide) ?_
      refine aw_remn rfl (by omega) (by omega) (by omega) ?_
      refine aw_cs (d1 := 0) (L1 := 0) rfl rfl (by decide) (by decide) (Nat.le_of_ble_eq_true rfl) (c_num ?_)
      exact aw_iret rfl rfl (by rw [ew]; exact q0 _ (n_land_wall hw24 hA hC (by omega) (by omega) c252) (lie_wall hl htn g2x) _ _ _)
  · try (obtain ⟨e, he0, rfl⟩ := nI_of (Int32.not_lt.mpr p1); have he : e < T.1 1 := (by have := (nI_leI (by omega) (by omega)).mp p2; omega))
    refine aw_ne rfl (fun c => absurd (by decide) c) (fun _ => ?_)
    refine aw_c (v := nI 1) rfl (by decide) ?_
    refine aw rfl rfl ?_
    refine aw_putfU rfl mg_121 rfl rfl (by decide) mp_55 ?_
    refine aw rfl rfl ?_
    refine aw_getf rfl mg_121 rfl ?_
    refine aw_eq rfl (fun c => absurd c (by decide)) (fun _ => ?_)
    refine aw rfl rfl ?_
    refine aw_cs (d1 := 0) (L1 := 0) rfl rfl (by decide) (by decide) (Nat.le_of_ble_eq_true rfl) (c_X11_losing (by omega) (by omega) ?_)
    exact aw_iret rfl rfl (q1 (n_land_out hG0 hw24 hA ha (by rw [hC]; exact n_out (by omega) (by omega) p)) _ _ _)
theorem n_ab {T : Sd} {LW : LWt} {l j o : Nat} {x : Int32} (ho : o < 6) : n_a1 T LW l (6 * j + o) x = nI (l / 3 % 8) + T.2 3 (6 * j + o) + n_held (LW 1 (nI (l / 3 % 8)) (nI (l / 3 / 8)) (nI (l % 3)) (T.2 0 (l / 3)) (nI j) (T.2 3 (6 * j + o)) x) (nI 4) := by
  unfold n_a1 n_lw
  rw [show (6 * j + o) / 6 = j by omega]
theorem n_cb {T : Sd} {LW : LWt} {l j o : Nat} {x : Int32} (ho : o < 6) : n_c1 T LW l (6 * j + o) x = nI (l / 3 / 8) + T.2 4 (6 * j + o) + n_held (LW 0 (nI (l / 3 % 8)) (nI (l / 3 / 8)) (nI (l % 3)) (T.2 0 (l / 3)) (nI j) (T.2 3 (6 * j + o)) x) (nI 2) := by
  unfold n_c1 n_lw
  rw [show (6 * j + o) / 6 = j by omega]
set_option maxRecDepth 4000 in
theorem c_X11_brought {Q : Option Value → am_H → Prop} (hM : MR k lv T W) (hG : GS T) {l w j o : Nat} {x : Int32} (hl : lieOK T l) (hw : w < 4) (hj : j < T.1 3) (ho : o < oc T j) (q1 : n_land T (lwf W) l (6 * j + o) x = -1 → ∀ v pl br, Q (some (.int (nI (lsg l w)))) (mh g k v pl br (nI 1) c ct pr pt cm bf bt)) (q0 : ∀ m, n_land T (lwf W) l (6 * j + o) x = nI m → lieOK T m → ∀ v pl br, Q (some (.int (nI (4 * m + w)))) (mh g k v pl br (nI 0) c ct pr pt cm bf bt)) : AC am_P 3 75 239 [.ref 121, .int (nI (4 * l + w)), .int (nI j), .int (nI o), .int x] (mh g k v pl br lo c ct pr pt cm bf bt) Q := by
  refine AC.of (ls := [_, _, _, _, _, _, _, _, _, _, _, _, _]) rfl ?_
  have hM0 := hM
  have hG0 := hG
  obtain ⟨m0, m1, mr, mw, mf, mk, mli, mt, ms, msq, moc, mwy, msp, mlw⟩ := hM
  obtain ⟨⟨g0, g0x⟩, ⟨g1, g1x⟩, ⟨g2, g2x⟩, ⟨g3, g3x⟩, g4, ⟨g5, g5x⟩, g6, gsq, goc, gwt, gsp, gfr⟩ := hG
  have hl96 := hl.1
  have hg := goc j hj
  have ho6 := hg.2.2.1
  have hgo := hg.2.2.2.2 o ho
  obtain ⟨t, ht, et⟩ := hgo.2.2.2
  have hwy := mwy j o hj ho
  have hw24 : ¬ 6 * j + o = 24 := by omega
  have etn : n_tn T l (6 * j + o) = (l % 3 + t) % T.1 2 := by unfold n_tn; rw [et, nI_clamp (by omega)]
  have htn : n_tn T l (6 * j + o) < T.1 2 := by rw [etn]; exact Nat.mod_lt _ (by omega)
  have ew : (4 * l + w) % 4 = w := by omega
  obtain ⟨a, ha, hA, hcs⟩ := n_a2_m (T := T) (LW := lwf W) (l := l) (way := 6 * j + o) (x := x) g0 g0x
  refine aw_c (v := nI 6) rfl (by decide) ?_
  refine aw_c (v := nI 4) rfl (by decide) ?_
  refine aw rfl rfl ?_
  refine aw_getfE rfl mg_121 rfl (congrArg Value.int m1) ?_
  refine aw_muln rfl ?_
  refine aw rfl rfl ?_
  refine aw_addn rfl ?_
  refine aw_muln rfl ?_
  refine aw rfl rfl ?_
  refine aw_addn rfl ?_
  refine aw_ist (ls' := [_, _, _, _, _, _, _, _, _, _, _, _, _]) rfl rfl ?_
  refine aw rfl rfl ?_
  refine aw_cs (d1 := 0) (L1 := 0) rfl rfl (by decide) (by decide) (Nat.le_of_ble_eq_true rfl) (c_al (by omega) (by omega) ?_)
  refine aw_ist (ls' := [_, _, _, _, _, _, _, _, _, _, _, _, _]) rfl rfl ?_
  refine aw rfl rfl ?_
  refine aw_cs (d1 := 0) (L1 := 0) rfl rfl (by decide) (by decide) (Nat.le_of_ble_eq_true rfl) (c_ac (by omega) (by omega) ?_)
  refine aw_ist (ls' := [_, _, _, _, _, _, _, _, _, _, _, _, _]) rfl rfl ?_
  refine aw rfl rfl ?_
  refine aw_cs (d1 := 0) (L1 := 0) rfl rfl (by decide) (by decide) (Nat.le_of_ble_eq_true rfl) (c_fc (by omega) (by omega) ?_)
  refine aw_ist (ls' := [_, _, _, _, _, _, _, _, _, _, _, _, _]) rfl rfl ?_
  refine aw rfl rfl ?_
  refine aw_getf rfl mg_121 rfl ?_
  refine aw_c (v := nI 0) rfl (by decide) ?_
  refine aw rfl rfl ?_
  refine aw_iastU rfl mg_155 rfl (by omega) (by decide) (by decide) mu_155 ?_
  refine aw rfl rfl ?_
  refine aw_getf rfl mg_121 rfl ?_
  refine aw_c (v := nI 1) rfl (by decide) ?_
  refine aw rfl rfl ?_
  refine aw_iastU rfl mg_155 rfl (by omega) (by decide) (by decide) mu_155 ?_
  refine aw rfl rfl ?_
  refine aw_getf rfl mg_121 rfl ?_
  refine aw_c (v := nI 2) rfl (by decide) ?_
  refine aw rfl rfl ?_
  refine aw_iastU rfl mg_155 rfl (by omega) (by decide) (by decide) mu_155 ?_
  refine aw rfl rfl ?_
  refine aw_getf rfl mg_121 rfl ?_
  refine aw_c (v := nI 3) rfl (by decide) ?_
  refine aw rfl rfl ?_
  refine aw rfl rfl ?_
  refine aw_cv (d1 := 1) (L1 := 22) rfl rfl mg_121 rfl rfl (by decide) (by decide) (Nat.le_of_ble_eq_true rfl) (c_so hM0 hG0 (by omega) hw hl.2.1 hl.2.2.1 ?_)
  refine aw_iastU rfl mg_155 rfl (by omega) (by decide) (by decide) mu_155 ?_
  refine aw rfl rfl ?_
  refine aw_getf rfl mg_121 rfl ?_
  refine aw_c (v := nI 4) rfl (by decide) ?_
  refine aw rfl rfl ?_
  refine aw_iastU rfl mg_155 rfl (by omega) (by decide) (by decide) mu_155 ?_
  refine aw rfl rfl ?_
  refine aw_getf rfl mg_121 rfl ?_
  refine aw_c (v := nI 5) rfl (by decide) ?_
  refine aw rfl rfl ?_
  refine aw_getf rfl mg_121 rfl ?_
  refine aw rfl rfl ?_
  refine aw_ialdE rfl mg_137 rfl (by omega) (by decide) hwy.2.1 ?_
  refine aw_iastU rfl mg_155 rfl (by omega) (by decide) (by decide) mu_155 ?_
  refine aw rfl rfl ?_
  refine aw_getf rfl mg_121 rfl ?_
  refine aw_c (v := nI 6) rfl (by decide) ?_
  refine aw rfl rfl ?_
  refine aw_iastU rfl mg_155 rfl (by omega) (by decide) (by decide) mu_155 ?_
  refine aw rfl rfl ?_
  refine aw rfl rfl ?_
  refine aw_getf rfl mg_121 rfl ?_
  refine aw rfl rfl ?_
  refine aw_ialdE rfl mg_137 rfl (by omega) (by decide) hwy.2.1 ?_
  refine aw rfl rfl ?_
  refine aw rfl rfl ?_
  refine aw_c (v := nI 1) rfl (by decide) ?_
  refine aw_cv (d1 := 1) (L1 := 27) rfl rfl mg_121 rfl rfl (by decide) (by decide) (Nat.le_of_ble_eq_true rfl) (c_asks hM0 hG0 (by decide) (fun pl br => ?_))
  refine aw_c (v := nI 4) rfl (by decide) ?_
  refine aw_cs (d1 := 0) (L1 := 0) rfl rfl (by decide) (by decide) (Nat.le_of_ble_eq_true rfl) (c_X11_held (by decide) ?_)
  refine aw rfl rfl ?_
  refine aw_ist (ls' := [_, _, _, _, _, _, _, _, _, _, _, _, _]) rfl rfl ?_
  show AW am_P 3 75 239 119 [_, _, _, _, _, _, _, _, _, some (.int (nI (l / 3 % 8) + T.2 3 (6 * j + o) + n_held (lwf W 1 (nI (l / 3 % 8)) (nI (l / 3 / 8)) (nI (l % 3)) (T.2 0 (l / 3)) (nI j) (T.2 3 (6 * j + o)) x) (nI 4))), _, _, _] [] _ Q
  rw [← n_ab (by omega)]
  refine aw rfl rfl ?_
  refine aw rfl rfl ?_
  refine aw_getf rfl mg_121 rfl ?_
  refine aw rfl rfl ?_
  refine aw_ialdE rfl mg_138 rfl (by omega) (by decide) hwy.2.2.1 ?_
  refine aw rfl rfl ?_
  refine aw rfl rfl ?_
  refine aw_c (v := nI 0) rfl (by decide) ?_
  refine aw_cv (d1 := 1) (L1 := 27) rfl rfl mg_121 rfl rfl (by decide) (by decide) (Nat.le_of_ble_eq_true rfl) (c_asks hM0 hG0 (by decide) (fun pl br => ?_))
  refine aw_c (v := nI 2) rfl (by decide) ?_
  refine aw_cs (d1 := 0) (L1 := 0) rfl rfl (by decide) (by decide) (Nat.le_of_ble_eq_true rfl) (c_X11_held (by decide) ?_)
  refine aw rfl rfl ?_
  refine aw_ist (ls' := [_, _, _, _, _, _, _, _, _, _, _, _, _]) rfl rfl ?_
  show AW am_P 3 75 239 141 [_, _, _, _, _, _, _, _, _, _, some (.int (nI (l / 3 / 8) + T.2 4 (6 * j + o) + n_held (lwf W 0 (nI (l / 3 % 8)) (nI (l / 3 / 8)) (nI (l % 3)) (T.2 0 (l / 3)) (nI j) (T.2 3 (6 * j + o)) x) (nI 2))), _, _] [] _ Q
  rw [← n_cb (by omega)]
  refine aw rfl rfl ?_
  refine aw rfl rfl ?_
  refine aw_getf rfl mg_121 rfl ?_
  refine aw rfl rfl ?_
  refine aw_ialdE rfl mg_139 rfl (by omega) (by decide) (hwy.2.2.2.trans et) ?_
  refine aw_addn rfl ?_
  refine aw rfl rfl ?_
  refine aw_getf rfl mg_121 rfl ?_
  refine aw rfl rfl ?_
  refine aw_getfE rfl mg_121 rfl (congrArg Value.int m1) ?_
  refine aw_ialdE rfl mg_133 rfl (by omega) (by decide) mf ?_
  refine aw_remn rfl (by omega) (by omega) (by omega) ?_
  refine aw_ist (ls' := [_, _, _, _, _, _, _, _, _, _, _, _, _]) rfl rfl ?_
  rw [← etn]
  rcases hcs with ⟨b1, b2⟩ | ⟨b1, b2⟩ | ⟨b1, b2⟩
  · subst b2
    refine aw rfl rfl ?_
    refine aw_ge rfl (fun c165 => absurd c165 (Int32.not_le.mpr b1)) (fun c165 => ?_)
    refine aw_c (v := nI 0) rfl (by decide) ?_
    refine aw_ist (ls' := [_, _, _, _, _, _, _, _, _, _, _, _, _]) rfl rfl ?_
    refine aw rfl rfl ?_
    refine aw rfl rfl ?_
    refine aw_getf rfl mg_121 rfl ?_
    refine aw rfl rfl ?_
    refine aw_getfE rfl mg_121 rfl (congrArg Value.int m1) ?_
    refine aw_ialdE rfl mg_131 rfl (by omega) (by decide) mw ?_
    refine aw_iltn rfl (fun c182 => ?_) (fun c182 => by omega)
    exact l_brought hM0 hG0 hl hw hj ho q1 q0 ha hA
  · subst b2
    refine aw rfl rfl ?_
    refine aw_ge rfl (fun c165 => ?_) (fun c165 => absurd (Int32.le_trans (nI_le (a := 0) (Nat.zero_le _) (by omega)) b1) c165)
    refine aw rfl rfl ?_
    refine aw rfl rfl ?_
    refine aw_getf rfl mg_121 rfl ?_
    refine aw rfl rfl ?_
    refine aw_getfE rfl mg_121 rfl (congrArg Value.int m1) ?_
    refine aw_ialdE rfl mg_131 rfl (by omega) (by decide) mw ?_
    refine aw_ilt rfl (fun c182 => absurd c182 (Int32.not_lt.mpr b1)) (fun c182 => ?_)
    refine aw rfl rfl ?_
    refine aw_getf rfl mg_121 rfl ?_
    refine aw rfl rfl ?_
    refine aw_getfE rfl mg_121 rfl (congrArg Value.int m1) ?_
    refine aw_ialdE rfl mg_131 rfl (by omega) (by decide) mw ?_
    refine aw_c (v := nI 1) rfl (by decide) ?_
    refine aw_subn rfl (by omega) ?_
    refine aw_ist (ls' := [_, _, _, _, _, _, _, _, _, _, _, _, _]) rfl rfl ?_
    exact l_brought hM0 hG0 hl hw hj ho q1 q0 ha hA
  · rw [b2]
    refine aw rfl rfl ?_
    refine aw_gen rfl ?_
    refine aw rfl rfl ?_
    refine aw rfl rfl ?_
    refine aw_getf rfl mg_121 rfl ?_
    refine aw rfl rfl ?_
    refine aw_getfE rfl mg_121 rfl (congrArg Value.int m1) ?_
    refine aw_ialdE rfl mg_131 rfl (by omega) (by decide) mw ?_
    refine aw_iltn rfl (fun c182 => ?_) (fun c182 => by omega)
    exact l_brought hM0 hG0 hl hw hj ho q1 q0 ha hA
end M1
