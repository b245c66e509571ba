/-! ===== the law: each of its cases ===== -/
section L1
variable {N A B n : Nat} {f : Nat → Int32} {h : am_H} {Q : Option Value → am_H → Prop}
set_option maxRecDepth 20000 in
theorem l_lwQ {h2 : am_H} (hJ2 : J N f A B (n + 1) h2) (hN : 6 * n + 6 ≤ N ∧ N ≤ 3072) (ih : ∀ h2, J N f A B (n + 1) h2 → AW am_P 10 256 304 18 [some (.ref 0), some (.ref 8), some (.ref 121), some (.int (nI (6 * (n + 1))))] [] h2 Q) : AW am_P 10 256 304 1215 [some (.ref 0), some (.ref 8), some (.ref 121), some (.int (nI (6 * n)))] [] h2 Q := by
  refine aw_incn (c := 6) (ls' := [_, _, _, _]) rfl rfl (by decide) rfl ?_
  refine aw rfl rfl ?_
  exact ih h2 hJ2
set_option maxRecDepth 20000 in
theorem l_law0 (hJ : J N f A B n h) (hN : 6 * n + 6 ≤ N ∧ N ≤ 3072) (ih : ∀ h2, J N f A B (n + 1) h2 → AW am_P 10 256 304 18 [some (.ref 0), some (.ref 8), some (.ref 121), some (.int (nI (6 * (n + 1))))] [] h2 Q) : AW am_P 10 256 304 180 [some (.ref 0), some (.ref 8), some (.ref 121), some (.int (nI (6 * n)))] [] h Q := by
  have hk := hJ.sk
  obtain ⟨fs1, h8⟩ := hk.2.1
  refine aw rfl rfl ?_
  refine aw rfl rfl ?_
  refine aw rfl rfl ?_
  refine aw_c (v := nI 1) rfl (by decide) ?_
  refine aw_addn rfl ?_
  refine aw_iald rfl hk.1 rfl (by omega) (by omega) ?_
  refine aw rfl rfl ?_
  refine aw rfl rfl ?_
  refine aw_c (v := nI 2) rfl (by decide) ?_
  refine aw_addn rfl ?_
  refine aw_iald rfl hk.1 rfl (by omega) (by omega) ?_
  refine aw rfl rfl ?_
  refine aw rfl rfl ?_
  refine aw_c (v := nI 3) rfl (by decide) ?_
  refine aw_addn rfl ?_
  refine aw_iald rfl hk.1 rfl (by omega) (by omega) ?_
  refine aw rfl rfl ?_
  refine aw rfl rfl ?_
  refine aw_c (v := nI 4) rfl (by decide) ?_
  refine aw_addn rfl ?_
  refine aw_iald rfl hk.1 rfl (by omega) (by omega) ?_
  refine aw rfl rfl ?_
  refine aw rfl rfl ?_
  refine aw_c (v := nI 5) rfl (by decide) ?_
  refine aw_addn rfl ?_
  refine aw_iald rfl hk.1 rfl (by omega) (by omega) ?_
  refine aw_cv (d1 := 1) (L1 := 22) rfl rfl h8 rfl rfl (by decide) (by decide) (Nat.le_of_ble_eq_true rfl) (j_feed hJ (by omega) (fun h1 a hk1 cont => ?_))
  obtain ⟨fs2, h1212⟩ := hk1.2.2
  refine aw rfl rfl ?_
  refine aw rfl rfl ?_
  refine aw rfl rfl ?_
  refine aw_c (v := nI 1) rfl (by decide) ?_
  refine aw_addn rfl ?_
  refine aw_iald rfl hk1.1 rfl (by omega) (by omega) ?_
  refine aw rfl rfl ?_
  refine aw rfl rfl ?_
  refine aw_c (v := nI 2) rfl (by decide) ?_
  refine aw_addn rfl ?_
  refine aw_iald rfl hk1.1 rfl (by omega) (by omega) ?_
  refine aw rfl rfl ?_
  refine aw rfl rfl ?_
  refine aw_c (v := nI 3) rfl (by decide) ?_
  refine aw_addn rfl ?_
  refine aw_iald rfl hk1.1 rfl (by omega) (by omega) ?_
  refine aw rfl rfl ?_
  refine aw rfl rfl ?_
  refine aw_c (v := nI 4) rfl (by decide) ?_
  refine aw_addn rfl ?_
  refine aw_iald rfl hk1.1 rfl (by omega) (by omega) ?_
  refine aw rfl rfl ?_
  refine aw rfl rfl ?_
  refine aw_c (v := nI 5) rfl (by decide) ?_
  refine aw_addn rfl ?_
  refine aw_iald rfl hk1.1 rfl (by omega) (by omega) ?_
  refine aw_cv (d1 := 1) (L1 := 22) rfl rfl h1212 rfl rfl (by decide) (by decide) (Nat.le_of_ble_eq_true rfl) (cont _ (fun h2 hJ2 => ?_))
  refine aw_ieq rfl (fun _ => ?_) (fun w => absurd rfl w)
  exact l_lwQ hJ2 hN ih
set_option maxRecDepth 20000 in
theorem l_law1 (hJ : J N f A B n h) (hN : 6 * n + 6 ≤ N ∧ N ≤ 3072) (ih : ∀ h2, J N f A B (n + 1) h2 → AW am_P 10 256 304 18 [some (.ref 0), some (.ref 8), some (.ref 121), some (.int (nI (6 * (n + 1))))] [] h2 Q) : AW am_P 10 256 304 243 [some (.ref 0), some (.ref 8), some (.ref 121), some (.int (nI (6 * n)))] [] h Q := by
  have hk := hJ.sk
  obtain ⟨fs1, h8⟩ := hk.2.1
  refine aw rfl rfl ?_
  refine aw rfl rfl ?_
  refine aw rfl rfl ?_
  refine aw_c (v := nI 1) rfl (by decide) ?_
  refine aw_addn rfl ?_
  refine aw_iald rfl hk.1 rfl (by omega) (by omega) ?_
  refine aw_cv (d1 := 0) (L1 := 0) rfl rfl h8 rfl rfl (by decide) (by decide) (Nat.le_of_ble_eq_true rfl) (j_back hJ (by omega) (fun h1 a hk1 cont => ?_))
  obtain ⟨fs2, h1212⟩ := hk1.2.2
  refine aw rfl rfl ?_
  refine aw rfl rfl ?_
  refine aw rfl rfl ?_
  refine aw_c (v := nI 1) rfl (by decide) ?_
  refine aw_addn rfl ?_
  refine aw_iald rfl hk1.1 rfl (by omega) (by omega) ?_
  refine aw_cv (d1 := 0) (L1 := 0) rfl rfl h1212 rfl rfl (by decide) (by decide) (Nat.le_of_ble_eq_true rfl) (cont _ (fun h2 hJ2 => ?_))
  refine aw_ieq rfl (fun _ => ?_) (fun w => absurd rfl w)
  exact l_lwQ hJ2 hN ih
set_option maxRecDepth 20000 in
theorem l_law2 (hJ : J N f A B n h) (hN : 6 * n + 6 ≤ N ∧ N ≤ 3072) (ih : ∀ h2, J N f A B (n + 1) h2 → AW am_P 10 256 304 18 [some (.ref 0), some (.ref 8), some (.ref 121), some (.int (nI (6 * (n + 1))))] [] h2 Q) : AW am_P 10 256 304 266 [some (.ref 0), some (.ref 8), some (.ref 121), some (.int (nI (6 * n)))] [] h Q := by
  have hk := hJ.sk
  obtain ⟨fs1, h8⟩ := hk.2.1
  refine aw rfl rfl ?_
  refine aw_cv (d1 := 9) (L1 := 215) rfl rfl h8 rfl rfl (by decide) (by decide) (Nat.le_of_ble_eq_true rfl) (j_read hJ (fun h1 a hk1 cont => ?_))
  obtain ⟨fs2, h1212⟩ := hk1.2.2
  refine aw rfl rfl ?_
  refine aw_cv (d1 := 7) (L1 := 147) rfl rfl h1212 rfl rfl (by decide) (by decide) (Nat.le_of_ble_eq_true rfl) (cont _ (fun h2 hJ2 => ?_))
  refine aw_ieq rfl (fun _ => ?_) (fun w => absurd rfl w)
  exact l_lwQ hJ2 hN ih
set_option maxRecDepth 20000 in
theorem l_law3 (hJ : J N f A B n h) (hN : 6 * n + 6 ≤ N ∧ N ≤ 3072) (ih : ∀ h2, J N f A B (n + 1) h2 → AW am_P 10 256 304 18 [some (.ref 0), some (.ref 8), some (.ref 121), some (.int (nI (6 * (n + 1))))] [] h2 Q) : AW am_P 10 256 304 279 [some (.ref 0), some (.ref 8), some (.ref 121), some (.int (nI (6 * n)))] [] h Q := by
  have hk := hJ.sk
  obtain ⟨fs1, h8⟩ := hk.2.1
  refine aw rfl rfl ?_
  refine aw_cv (d1 := 0) (L1 := 0) rfl rfl h8 rfl rfl (by decide) (by decide) (Nat.le_of_ble_eq_true rfl) (j_place hJ (by omega) (fun h1 a hk1 cont => ?_))
  obtain ⟨fs2, h1212⟩ := hk1.2.2
  refine aw rfl rfl ?_
  refine aw_cv (d1 := 0) (L1 := 0) rfl rfl h1212 rfl rfl (by decide) (by decide) (Nat.le_of_ble_eq_true rfl) (cont _ (fun h2 hJ2 => ?_))
  refine aw_ieq rfl (fun _ => ?_) (fun w => absurd rfl w)
  exact l_lwQ hJ2 hN ih
set_option maxRecDepth 20000 in
theorem l_law4 (hJ : J N f A B n h) (hN : 6 * n + 6 ≤ N ∧ N ≤ 3072) (ih : ∀ h2, J N f A B (n + 1) h2 → AW am_P 10 256 304 18 [some (.ref 0), some (.ref 8), some (.ref 121), some (.int (nI (6 * (n + 1))))] [] h2 Q) : AW am_P 10 256 304 292 [some (.ref 0), some (.ref 8), some (.ref 121), some (.int (nI (6 * n)))] [] h Q := by
  have hk := hJ.sk
  obtain ⟨fs1, h8⟩ := hk.2.1
  refine aw rfl rfl ?_
  refine aw rfl rfl ?_
  refine aw rfl rfl ?_
  refine aw_c (v := nI 1) rfl (by decide) ?_
  refine aw_addn rfl ?_
  refine aw_iald rfl hk.1 rfl (by omega) (by omega) ?_
  refine aw_cv (d1 := 1) (L1 := 20) rfl rfl h8 rfl rfl (by decide) (by decide) (Nat.le_of_ble_eq_true rfl) (j_now hJ (by omega) (fun h1 a hk1 cont => ?_))
  obtain ⟨fs2, h1212⟩ := hk1.2.2
  refine aw rfl rfl ?_
  refine aw rfl rfl ?_
  refine aw rfl rfl ?_
  refine aw_c (v := nI 1) rfl (by decide) ?_
  refine aw_addn rfl ?_
  refine aw_iald rfl hk1.1 rfl (by omega) (by omega) ?_
  refine aw_cv (d1 := 3) (L1 := 64) rfl rfl h1212 rfl rfl (by decide) (by decide) (Nat.le_of_ble_eq_true rfl) (cont _ (fun h2 hJ2 => ?_))
  refine aw_ieq rfl (fun _ => ?_) (fun w => absurd rfl w)
  exact l_lwQ hJ2 hN ih
set_option maxRecDepth 20000 in
theorem l_law5 (hJ : J N f A B n h) (hN : 6 * n + 6 ≤ N ∧ N ≤ 3072) (ih : ∀ h2, J N f A B (n + 1) h2 → AW am_P 10 256 304 18 [some (.ref 0), some (.ref 8), some (.ref 121), some (.int (nI (6 * (n + 1))))] [] h2 Q) : AW am_P 10 256 304 315 [some (.ref 0), some (.ref 8), some (.ref 121), some (.int (nI (6 * n)))] [] h Q := by
  have hk := hJ.sk
  obtain ⟨fs1, h8⟩ := hk.2.1
  refine aw rfl rfl ?_
  refine aw rfl rfl ?_
  refine aw rfl rfl ?_
  refine aw_c (v := nI 1) rfl (by decide) ?_
  refine aw_addn rfl ?_
  refine aw_iald rfl hk.1 rfl (by omega) (by omega) ?_
  refine aw rfl rfl ?_
  refine aw rfl rfl ?_
  refine aw_c (v := nI 2) rfl (by decide) ?_
  refine aw_addn rfl ?_
  refine aw_iald rfl hk.1 rfl (by omega) (by omega) ?_
  refine aw_cv (d1 := 1) (L1 := 23) rfl rfl h8 rfl rfl (by decide) (by decide) (Nat.le_of_ble_eq_true rfl) (j_square hJ (by omega) (fun h1 a hk1 cont => ?_))
  obtain ⟨fs2, h1212⟩ := hk1.2.2
  refine aw rfl rfl ?_
  refine aw rfl rfl ?_
  refine aw rfl rfl ?_
  refine aw_c (v := nI 1) rfl (by decide) ?_
  refine aw_addn rfl ?_
  refine aw_iald rfl hk1.1 rfl (by omega) (by omega) ?_
  refine aw rfl rfl ?_
  refine aw rfl rfl ?_
  refine aw_c (v := nI 2) rfl (by decide) ?_
  refine aw_addn rfl ?_
  refine aw_iald rfl hk1.1 rfl (by omega) (by omega) ?_
  refine aw_cv (d1 := 2) (L1 := 44) rfl rfl h1212 rfl rfl (by decide) (by decide) (Nat.le_of_ble_eq_true rfl) (cont _ (fun h2 hJ2 => ?_))
  refine aw_ieq rfl (fun _ => ?_) (fun w => absurd rfl w)
  exact l_lwQ hJ2 hN ih
set_option maxRecDepth 20000 in
theorem l_law6 (hJ : J N f A B n h) (hN : 6 * n + 6 ≤ N ∧ N ≤ 3072) (ih : ∀ h2, J N f A B (n + 1) h2 → AW am_P 10 256 304 18 [some (.ref 0), some (.ref 8), some (.ref 121), some (.int (nI (6 * (n + 1))))] [] h2 Q) : AW am_P 10 256 304 348 [some (.ref 0), some (.ref 8), some (.ref 121), some (.int (nI (6 * n)))] [] h Q := by
  have hk := hJ.sk
  obtain ⟨fs1, h8⟩ := hk.2.1
  refine aw rfl rfl ?_
  refine aw rfl rfl ?_
  refine aw rfl rfl ?_
  refine aw_c (v := nI 1) rfl (by decide) ?_
  refine aw_addn rfl ?_
  refine aw_iald rfl hk.1 rfl (by omega) (by omega) ?_
  refine aw rfl rfl ?_
  refine aw rfl rfl ?_
  refine aw_c (v := nI 2) rfl (by decide) ?_
  refine aw_addn rfl ?_
  refine aw_iald rfl hk.1 rfl (by omega) (by omega) ?_
  refine aw rfl rfl ?_
  refine aw rfl rfl ?_
  refine aw_c (v := nI 3) rfl (by decide) ?_
  refine aw_addn rfl ?_
  refine aw_iald rfl hk.1 rfl (by omega) (by omega) ?_
  refine aw_cv (d1 := 3) (L1 := 70) rfl rfl h8 rfl rfl (by decide) (by decide) (Nat.le_of_ble_eq_true rfl) (j_cars hJ (by omega) (fun h1 a hk1 cont => ?_))
  obtain ⟨fs2, h1212⟩ := hk1.2.2
  refine aw rfl rfl ?_
  refine aw rfl rfl ?_
  refine aw rfl rfl ?_
  refine aw_c (v := nI 1) rfl (by decide) ?_
  refine aw_addn rfl ?_
  refine aw_iald rfl hk1.1 rfl (by omega) (by omega) ?_
  refine aw rfl rfl ?_
  refine aw rfl rfl ?_
  refine aw_c (v := nI 2) rfl (by decide) ?_
  refine aw_addn rfl ?_
  refine aw_iald rfl hk1.1 rfl (by omega) (by omega) ?_
  refine aw rfl rfl ?_
  refine aw rfl rfl ?_
  refine aw_c (v := nI 3) rfl (by decide) ?_
  refine aw_addn rfl ?_
  refine aw_iald rfl hk1.1 rfl (by omega) (by omega) ?_
  refine aw_cv (d1 := 3) (L1 := 75) rfl rfl h1212 rfl rfl (by decide) (by decide) (Nat.le_of_ble_eq_true rfl) (cont _ (fun h2 hJ2 => ?_))
  refine aw_ieq rfl (fun _ => ?_) (fun w => absurd rfl w)
  exact l_lwQ hJ2 hN ih
set_option maxRecDepth 20000 in
theorem l_law7 (hJ : J N f A B n h) (hN : 6 * n + 6 ≤ N ∧ N ≤ 3072) (ih : ∀ h2, J N f A B (n + 1) h2 → AW am_P 10 256 304 18 [some (.ref 0), some (.ref 8), some (.ref 121), some (.int (nI (6 * (n + 1))))] [] h2 Q) : AW am_P 10 256 304 391 [some (.ref 0), some (.ref 8), some (.ref 121), some (.int (nI (6 * n)))] [] h Q := by
  have hk := hJ.sk
  obtain ⟨fs1, h8⟩ := hk.2.1
  refine aw rfl rfl ?_
  refine aw rfl rfl ?_
  refine aw rfl rfl ?_
  refine aw_c (v := nI 1) rfl (by decide) ?_
  refine aw_addn rfl ?_
  refine aw_iald rfl hk.1 rfl (by omega) (by omega) ?_
  refine aw_cv (d1 := 5) (L1 := 122) rfl rfl h8 rfl rfl (by decide) (by decide) (Nat.le_of_ble_eq_true rfl) (j_kick hJ (by omega) (fun h1 a hk1 cont => ?_))
  obtain ⟨fs2, h1212⟩ := hk1.2.2
  refine aw rfl rfl ?_
  refine aw rfl rfl ?_
  refine aw rfl rfl ?_
  refine aw_c (v := nI 1) rfl (by decide) ?_
  refine aw_addn rfl ?_
  refine aw_iald rfl hk1.1 rfl (by omega) (by omega) ?_
  refine aw_cv (d1 := 4) (L1 := 107) rfl rfl h1212 rfl rfl (by decide) (by decide) (Nat.le_of_ble_eq_true rfl) (cont _ (fun h2 hJ2 => ?_))
  refine aw_ieq rfl (fun _ => ?_) (fun w => absurd rfl w)
  exact l_lwQ hJ2 hN ih
set_option maxRecDepth 20000 in
theorem l_law8 (hJ : J N f A B n h) (hN : 6 * n + 6 ≤ N ∧ N ≤ 3072) (ih : ∀ h2, J N f A B (n + 1) h2 → AW am_P 10 256 304 18 [some (.ref 0), some (.ref 8), some (.ref 121), some (.int (nI (6 * (n + 1))))] [] h2 Q) : AW am_P 10 256 304 414 [some (.ref 0), some (.ref 8), some (.ref 121), some (.int (nI (6 * n)))] [] h Q := by
  have hk := hJ.sk
  obtain ⟨fs1, h8⟩ := hk.2.1
  refine aw rfl rfl ?_
  refine aw_cv (d1 := 5) (L1 := 122) rfl rfl h8 rfl rfl (by decide) (by decide) (Nat.le_of_ble_eq_true rfl) (j_waits hJ (by omega) (fun h1 a hk1 cont => ?_))
  obtain ⟨fs2, h1212⟩ := hk1.2.2
  refine aw rfl rfl ?_
  refine aw_cv (d1 := 4) (L1 := 97) rfl rfl h1212 rfl rfl (by decide) (by decide) (Nat.le_of_ble_eq_true rfl) (cont _ (fun h2 hJ2 => ?_))
  refine aw_ieq rfl (fun _ => ?_) (fun w => absurd rfl w)
  exact l_lwQ hJ2 hN ih
set_option maxRecDepth 20000 in
theorem l_law9 (hJ : J N f A B n h) (hN : 6 * n + 6 ≤ N ∧ N ≤ 3072) (ih : ∀ h2, J N f A B (n + 1) h2 → AW am_P 10 256 304 18 [some (.ref 0), some (.ref 8), some (.ref 121), some (.int (nI (6 * (n + 1))))] [] h2 Q) : AW am_P 10 256 304 427 [some (.ref 0), some (.ref 8), some (.ref 121), some (.int (nI (6 * n)))] [] h Q := by
  have hk := hJ.sk
  obtain ⟨fs1, h8⟩ := hk.2.1
  refine aw rfl rfl ?_
  refine aw rfl rfl ?_
  refine aw rfl rfl ?_
  refine aw_c (v := nI 1) rfl (by decide) ?_
  refine aw_addn rfl ?_
  refine aw_iald rfl hk.1 rfl (by omega) (by omega) ?_
  refine aw_cv (d1 := 3) (L1 := 67) rfl rfl h8 rfl rfl (by decide) (by decide) (Nat.le_of_ble_eq_true rfl) (j_touch hJ (by omega) (fun h1 a hk1 cont => ?_))
  obtain ⟨fs2, h1212⟩ := hk1.2.2
  refine aw rfl rfl ?_
  refine aw rfl rfl ?_
  refine aw rfl rfl ?_
  refine aw_c (v := nI 1) rfl (by decide) ?_
  refine aw_addn rfl ?_
  refine aw_iald rfl hk1.1 rfl (by omega) (by omega) ?_
  refine aw_cv (d1 := 4) (L1 := 84) rfl rfl h1212 rfl rfl (by decide) (by decide) (Nat.le_of_ble_eq_true rfl) (cont _ (fun h2 hJ2 => ?_))
  refine aw_ieq rfl (fun _ => ?_) (fun w => absurd rfl w)
  exact l_lwQ hJ2 hN ih
set_option maxRecDepth 20000 in
theorem l_law10 (hJ : J N f A B n h) (hN : 6 * n + 6 ≤ N ∧ N ≤ 3072) (ih : ∀ h2, J N f A B (n + 1) h2 → AW am_P 10 256 304 18 [some (.ref 0), some (.ref 8), some (.ref 121), some (.int (nI (6 * (n + 1))))] [] h2 Q) : AW am_P 10 256 304 450 [some (.ref 0), some (.ref 8), some (.ref 121), some (.int (nI (6 * n)))] [] h Q := by
  have hk := hJ.sk
  obtain ⟨fs1, h8⟩ := hk.2.1
  refine aw rfl rfl ?_
  refine aw_cv (d1 := 2) (L1 := 42) rfl rfl h8 rfl rfl (by decide) (by decide) (Nat.le_of_ble_eq_true rfl) (j_undo hJ (by omega) (fun h1 a hk1 cont => ?_))
  obtain ⟨fs2, h1212⟩ := hk1.2.2
  refine aw rfl rfl ?_
  refine aw_cv (d1 := 0) (L1 := 0) rfl rfl h1212 rfl rfl (by decide) (by decide) (Nat.le_of_ble_eq_true rfl) (cont _ (fun h2 hJ2 => ?_))
  refine aw_ieq rfl (fun _ => ?_) (fun w => absurd rfl w)
  exact l_lwQ hJ2 hN ih
set_option maxRecDepth 20000 in
theorem l_law11 (hJ : J N f A B n h) (hN : 6 * n + 6 ≤ N ∧ N ≤ 3072) (ih : ∀ h2, J N f A B (n + 1) h2 → AW am_P 10 256 304 18 [some (.ref 0), some (.ref 8), some (.ref 121), some (.int (nI (6 * (n + 1))))] [] h2 Q) : AW am_P 10 256 304 463 [some (.ref 0), some (.ref 8), some (.ref 121), some (.int (nI (6 * n)))] [] h Q := by
  have hk := hJ.sk
  obtain ⟨fs1, h8⟩ := hk.2.1
  refine aw rfl rfl ?_
  refine aw rfl rfl ?_
  refine aw rfl rfl ?_
  refine aw_c (v := nI 1) rfl (by decide) ?_
  refine aw_addn rfl ?_
  refine aw_iald rfl hk.1 rfl (by omega) (by omega) ?_
  refine aw rfl rfl ?_
  refine aw rfl rfl ?_
  refine aw_c (v := nI 2) rfl (by decide) ?_
  refine aw_addn rfl ?_
  refine aw_iald rfl hk.1 rfl (by omega) (by omega) ?_
  refine aw rfl rfl ?_
  refine aw rfl rfl ?_
  refine aw_c (v := nI 3) rfl (by decide) ?_
  refine aw_addn rfl ?_
  refine aw_iald rfl hk.1 rfl (by omega) (by omega) ?_
  refine aw_cv (d1 := 4) (L1 := 100) rfl rfl h8 rfl rfl (by decide) (by decide) (Nat.le_of_ble_eq_true rfl) (j_brings hJ (by omega) (fun h1 a hk1 cont => ?_))
  obtain ⟨fs2, h1212⟩ := hk1.2.2
  refine aw rfl rfl ?_
  refine aw rfl rfl ?_
  refine aw rfl rfl ?_
  refine aw_c (v := nI 1) rfl (by decide) ?_
  refine aw_addn rfl ?_
  refine aw_iald rfl hk1.1 rfl (by omega) (by omega) ?_
  refine aw rfl rfl ?_
  refine aw rfl rfl ?_
  refine aw_c (v := nI 2) rfl (by decide) ?_
  refine aw_addn rfl ?_
  refine aw_iald rfl hk1.1 rfl (by omega) (by omega) ?_
  refine aw rfl rfl ?_
  refine aw rfl rfl ?_
  refine aw_c (v := nI 3) rfl (by decide) ?_
  refine aw_addn rfl ?_
  refine aw_iald rfl hk1.1 rfl (by omega) (by omega) ?_
  refine aw_cv (d1 := 4) (L1 := 107) rfl rfl h1212 rfl rfl (by decide) (by decide) (Nat.le_of_ble_eq_true rfl) (cont _ (fun h2 hJ2 => ?_))
  refine aw_ieq rfl (fun _ => ?_) (fun w => absurd rfl w)
  exact l_lwQ hJ2 hN ih
set_option maxRecDepth 20000 in
theorem l_law12 (hJ : J N f A B n h) (hN : 6 * n + 6 ≤ N ∧ N ≤ 3072) (ih : ∀ h2, J N f A B (n + 1) h2 → AW am_P 10 256 304 18 [some (.ref 0), some (.ref 8), some (.ref 121), some (.int (nI (6 * (n + 1))))] [] h2 Q) : AW am_P 10 256 304 506 [some (.ref 0), some (.ref 8), some (.ref 121), some (.int (nI (6 * n)))] [] h Q := by
  have hk := hJ.sk
  obtain ⟨fs1, h8⟩ := hk.2.1
  by_cases e2 : f (6 * n + 2) = 0
  · refine aw rfl rfl ?_
    refine aw rfl rfl ?_
    refine aw rfl rfl ?_
    refine aw_c (v := nI 1) rfl (by decide) ?_
    refine aw_addn rfl ?_
    refine aw_iald rfl hk.1 rfl (by omega) (by omega) ?_
    refine aw rfl rfl ?_
    refine aw rfl rfl ?_
    refine aw_c (v := nI 2) rfl (by decide) ?_
    refine aw_addn rfl ?_
    refine aw_iald rfl hk.1 rfl (by omega) (by omega) ?_
    refine aw_eq rfl (fun _ => ?_) (fun w => absurd e2 w)
    refine aw_c (v := nI 0) rfl (by decide) ?_
    refine aw_cv (d1 := 7) (L1 := 176) rfl rfl h8 rfl rfl (by decide) (by decide) (Nat.le_of_ble_eq_true rfl) (j_home (b := false) hJ (by omega) (fun h1 a hk1 cont => ?_))
    obtain ⟨fs2, h1212⟩ := hk1.2.2
    refine aw rfl rfl ?_
    refine aw rfl rfl ?_
    refine aw rfl rfl ?_
    refine aw_c (v := nI 1) rfl (by decide) ?_
    refine aw_addn rfl ?_
    refine aw_iald rfl hk1.1 rfl (by omega) (by omega) ?_
    refine aw rfl rfl ?_
    refine aw rfl rfl ?_
    refine aw_c (v := nI 2) rfl (by decide) ?_
    refine aw_addn rfl ?_
    refine aw_iald rfl hk1.1 rfl (by omega) (by omega) ?_
    refine aw_eq rfl (fun _ => ?_) (fun w => absurd e2 w)
    refine aw_c (v := nI 0) rfl (by decide) ?_
    refine aw_cv (d1 := 9) (L1 := 229) rfl rfl h1212 rfl rfl (by decide) (by decide) (Nat.le_of_ble_eq_true rfl) (cont _ (fun h2 hJ2 => ?_))
    refine aw_ieq rfl (fun _ => ?_) (fun w => absurd rfl w)
    exact l_lwQ hJ2 hN ih
  · refine aw rfl rfl ?_
    refine aw rfl rfl ?_
    refine aw rfl rfl ?_
    refine aw_c (v := nI 1) rfl (by decide) ?_
    refine aw_addn rfl ?_
    refine aw_iald rfl hk.1 rfl (by omega) (by omega) ?_
    refine aw rfl rfl ?_
    refine aw rfl rfl ?_
    refine aw_c (v := nI 2) rfl (by decide) ?_
    refine aw_addn rfl ?_
    refine aw_iald rfl hk.1 rfl (by omega) (by omega) ?_
    refine aw_eq rfl (fun w => absurd w e2) (fun _ => ?_)
    refine aw_c (v := nI 1) rfl (by decide) ?_
    refine aw rfl rfl ?_
    refine aw_cv (d1 := 7) (L1 := 176) rfl rfl h8 rfl rfl (by decide) (by decide) (Nat.le_of_ble_eq_true rfl) (j_home (b := true) hJ (by omega) (fun h1 a hk1 cont => ?_))
    obtain ⟨fs2, h1212⟩ := hk1.2.2
    refine aw rfl rfl ?_
    refine aw rfl rfl ?_
    refine aw rfl rfl ?_
    refine aw_c (v := nI 1) rfl (by decide) ?_
    refine aw_addn rfl ?_
    refine aw_iald rfl hk1.1 rfl (by omega) (by omega) ?_
    refine aw rfl rfl ?_
    refine aw rfl rfl ?_
    refine aw_c (v := nI 2) rfl (by decide) ?_
    refine aw_addn rfl ?_
    refine aw_iald rfl hk1.1 rfl (by omega) (by omega) ?_
    refine aw_eq rfl (fun w => absurd w e2) (fun _ => ?_)
    refine aw_c (v := nI 1) rfl (by decide) ?_
    refine aw rfl rfl ?_
    refine aw_cv (d1 := 9) (L1 := 229) rfl rfl h1212 rfl rfl (by decide) (by decide) (Nat.le_of_ble_eq_true rfl) (cont _ (fun h2 hJ2 => ?_))
    refine aw_ieq rfl (fun _ => ?_) (fun w => absurd rfl w)
    exact l_lwQ hJ2 hN ih
set_option maxRecDepth 20000 in
theorem l_law13 (hJ : J N f A B n h) (hN : 6 * n + 6 ≤ N ∧ N ≤ 3072) (ih : ∀ h2, J N f A B (n + 1) h2 → AW am_P 10 256 304 18 [some (.ref 0), some (.ref 8), some (.ref 121), some (.int (nI (6 * (n + 1))))] [] h2 Q) : AW am_P 10 256 304 555 [some (.ref 0), some (.ref 8), some (.ref 121), some (.int (nI (6 * n)))] [] h Q := by
  have hk := hJ.sk
  obtain ⟨fs1, h8⟩ := hk.2.1
  refine aw rfl rfl ?_
  refine aw rfl rfl ?_
  refine aw rfl rfl ?_
  refine aw_c (v := nI 1) rfl (by decide) ?_
  refine aw_addn rfl ?_
  refine aw_iald rfl hk.1 rfl (by omega) (by omega) ?_
  refine aw_cv (d1 := 7) (L1 := 178) rfl rfl h8 rfl rfl (by decide) (by decide) (Nat.le_of_ble_eq_true rfl) (j_best hJ (by omega) (fun h1 a hk1 cont => ?_))
  obtain ⟨fs2, h1212⟩ := hk1.2.2
  refine aw rfl rfl ?_
  refine aw rfl rfl ?_
  refine aw rfl rfl ?_
  refine aw_c (v := nI 1) rfl (by decide) ?_
  refine aw_addn rfl ?_
  refine aw_iald rfl hk1.1 rfl (by omega) (by omega) ?_
  refine aw_cv (d1 := 8) (L1 := 208) rfl rfl h1212 rfl rfl (by decide) (by decide) (Nat.le_of_ble_eq_true rfl) (cont _ (fun h2 hJ2 => ?_))
  refine aw_ieq rfl (fun _ => ?_) (fun w => absurd rfl w)
  exact l_lwQ hJ2 hN ih
set_option maxRecDepth 20000 in
theorem l_law14 (hJ : J N f A B n h) (hN : 6 * n + 6 ≤ N ∧ N ≤ 3072) (ih : ∀ h2, J N f A B (n + 1) h2 → AW am_P 10 256 304 18 [some (.ref 0), some (.ref 8), some (.ref 121), some (.int (nI (6 * (n + 1))))] [] h2 Q) : AW am_P 10 256 304 578 [some (.ref 0), some (.ref 8), some (.ref 121), some (.int (nI (6 * n)))] [] h Q := by
  have hk := hJ.sk
  obtain ⟨fs1, h8⟩ := hk.2.1
  refine aw rfl rfl ?_
  refine aw rfl rfl ?_
  refine aw rfl rfl ?_
  refine aw_c (v := nI 1) rfl (by decide) ?_
  refine aw_addn rfl ?_
  refine aw_iald rfl hk.1 rfl (by omega) (by omega) ?_
  refine aw_cv (d1 := 7) (L1 := 176) rfl rfl h8 rfl rfl (by decide) (by decide) (Nat.le_of_ble_eq_true rfl) (j_sure hJ (by omega) (fun h1 a hk1 cont => ?_))
  obtain ⟨fs2, h1212⟩ := hk1.2.2
  refine aw rfl rfl ?_
  refine aw rfl rfl ?_
  refine aw rfl rfl ?_
  refine aw_c (v := nI 1) rfl (by decide) ?_
  refine aw_addn rfl ?_
  refine aw_iald rfl hk1.1 rfl (by omega) (by omega) ?_
  refine aw_cv (d1 := 9) (L1 := 229) rfl rfl h1212 rfl rfl (by decide) (by decide) (Nat.le_of_ble_eq_true rfl) (cont _ (fun h2 hJ2 => ?_))
  refine aw_ieq rfl (fun _ => ?_) (fun w => absurd rfl w)
  exact l_lwQ hJ2 hN ih
set_option maxRecDepth 20000 in
theorem l_law15 (hJ : J N f A B n h) (hN : 6 * n + 6 ≤ N ∧ N ≤ 3072) (ih : ∀ h2, J N f A B (n + 1) h2 → AW am_P 10 256 304 18 [some (.ref 0), some (.ref 8), some (.ref 121), some (.int (nI (6 * (n + 1))))] [] h2 Q) : AW am_P 10 256 304 601 [some (.ref 0), some (.ref 8), some (.ref 121), some (.int (nI (6 * n)))] [] h Q := by
  have hk := hJ.sk
  obtain ⟨fs1, h8⟩ := hk.2.1
  refine aw rfl rfl ?_
  refine aw rfl rfl ?_
  refine aw rfl rfl ?_
  refine aw_c (v := nI 1) rfl (by decide) ?_
  refine aw_addn rfl ?_
  refine aw_iald rfl hk.1 rfl (by omega) (by omega) ?_
  refine aw_cv (d1 := 7) (L1 := 176) rfl rfl h8 rfl rfl (by decide) (by decide) (Nat.le_of_ble_eq_true rfl) (j_least hJ (by omega) (fun h1 a hk1 cont => ?_))
  obtain ⟨fs2, h1212⟩ := hk1.2.2
  refine aw rfl rfl ?_
  refine aw rfl rfl ?_
  refine aw rfl rfl ?_
  refine aw_c (v := nI 1) rfl (by decide) ?_
  refine aw_addn rfl ?_
  refine aw_iald rfl hk1.1 rfl (by omega) (by omega) ?_
  refine aw_cv (d1 := 9) (L1 := 229) rfl rfl h1212 rfl rfl (by decide) (by decide) (Nat.le_of_ble_eq_true rfl) (cont _ (fun h2 hJ2 => ?_))
  refine aw_ieq rfl (fun _ => ?_) (fun w => absurd rfl w)
  exact l_lwQ hJ2 hN ih
set_option maxRecDepth 20000 in
theorem l_law16 (hJ : J N f A B n h) (hN : 6 * n + 6 ≤ N ∧ N ≤ 3072) (ih : ∀ h2, J N f A B (n + 1) h2 → AW am_P 10 256 304 18 [some (.ref 0), some (.ref 8), some (.ref 121), some (.int (nI (6 * (n + 1))))] [] h2 Q) : AW am_P 10 256 304 624 [some (.ref 0), some (.ref 8), some (.ref 121), some (.int (nI (6 * n)))] [] h Q := by
  have hk := hJ.sk
  obtain ⟨fs1, h8⟩ := hk.2.1
  by_cases e3 : f (6 * n + 3) = 0
  · refine aw rfl rfl ?_
    refine aw rfl rfl ?_
    refine aw rfl rfl ?_
    refine aw_c (v := nI 1) rfl (by decide) ?_
    refine aw_addn rfl ?_
    refine aw_iald rfl hk.1 rfl (by omega) (by omega) ?_
    refine aw rfl rfl ?_
    refine aw rfl rfl ?_
    refine aw_c (v := nI 2) rfl (by decide) ?_
    refine aw_addn rfl ?_
    refine aw_iald rfl hk.1 rfl (by omega) (by omega) ?_
    refine aw rfl rfl ?_
    refine aw rfl rfl ?_
    refine aw_c (v := nI 3) rfl (by decide) ?_
    refine aw_addn rfl ?_
    refine aw_iald rfl hk.1 rfl (by omega) (by omega) ?_
    refine aw_eq rfl (fun _ => ?_) (fun w => absurd e3 w)
    refine aw_c (v := nI 0) rfl (by decide) ?_
    refine aw_cv (d1 := 7) (L1 := 178) rfl rfl h8 rfl rfl (by decide) (by decide) (Nat.le_of_ble_eq_true rfl) (j_rule (b := false) hJ (by omega) (fun h1 a hk1 cont => ?_))
    obtain ⟨fs2, h1212⟩ := hk1.2.2
    refine aw rfl rfl ?_
    refine aw rfl rfl ?_
    refine aw rfl rfl ?_
    refine aw_c (v := nI 1) rfl (by decide) ?_
    refine aw_addn rfl ?_
    refine aw_iald rfl hk1.1 rfl (by omega) (by omega) ?_
    refine aw rfl rfl ?_
    refine aw rfl rfl ?_
    refine aw_c (v := nI 2) rfl (by decide) ?_
    refine aw_addn rfl ?_
    refine aw_iald rfl hk1.1 rfl (by omega) (by omega) ?_
    refine aw rfl rfl ?_
    refine aw rfl rfl ?_
    refine aw_c (v := nI 3) rfl (by decide) ?_
    refine aw_addn rfl ?_
    refine aw_iald rfl hk1.1 rfl (by omega) (by omega) ?_
    refine aw_eq rfl (fun _ => ?_) (fun w => absurd e3 w)
    refine aw_c (v := nI 0) rfl (by decide) ?_
    refine aw_cv (d1 := 8) (L1 := 208) rfl rfl h1212 rfl rfl (by decide) (by decide) (Nat.le_of_ble_eq_true rfl) (cont _ (fun h2 hJ2 => ?_))
    refine aw_ieq rfl (fun _ => ?_) (fun w => absurd rfl w)
    exact l_lwQ hJ2 hN ih
  · refine aw rfl rfl ?_
    refine aw rfl rfl ?_
    refine aw rfl rfl ?_
    refine aw_c (v := nI 1) rfl (by decide) ?_
    refine aw_addn rfl ?_
    refine aw_iald rfl hk.1 rfl (by omega) (by omega) ?_
    refine aw rfl rfl ?_
    refine aw rfl rfl ?_
    refine aw_c (v := nI 2) rfl (by decide) ?_
    refine aw_addn rfl ?_
    refine aw_iald rfl hk.1 rfl (by omega) (by omega) ?_
    refine aw rfl rfl ?_
    refine aw rfl rfl ?_
    refine aw_c (v := nI 3) rfl (by decide) ?_
    refine aw_addn rfl ?_
    refine aw_iald rfl hk.1 rfl (by omega) (by omega) ?_
    refine aw_eq rfl (fun w => absurd w e3) (fun _ => ?_)
    refine aw_c (v := nI 1) rfl (by decide) ?_
    refine aw rfl rfl ?_
    refine aw_cv (d1 := 7) (L1 := 178) rfl rfl h8 rfl rfl (by decide) (by decide) (Nat.le_of_ble_eq_true rfl) (j_rule (b := true) hJ (by omega) (fun h1 a hk1 cont => ?_))
    obtain ⟨fs2, h1212⟩ := hk1.2.2
    refine aw rfl rfl ?_
    refine aw rfl rfl ?_
    refine aw rfl rfl ?_
    refine aw_c (v := nI 1) rfl (by decide) ?_
    refine aw_addn rfl ?_
    refine aw_iald rfl hk1.1 rfl (by omega) (by omega) ?_
    refine aw rfl rfl ?_
    refine aw rfl rfl ?_
    refine aw_c (v := nI 2) rfl (by decide) ?_
    refine aw_addn rfl ?_
    refine aw_iald rfl hk1.1 rfl (by omega) (by omega) ?_
    refine aw rfl rfl ?_
    refine aw rfl rfl ?_
    refine aw_c (v := nI 3) rfl (by decide) ?_
    refine aw_addn rfl ?_
    refine aw_iald rfl hk1.1 rfl (by omega) (by omega) ?_
    refine aw_eq rfl (fun w => absurd w e3) (fun _ => ?_)
    refine aw_c (v := nI 1) rfl (by decide) ?_
    refine aw rfl rfl ?_
    refine aw_cv (d1 := 8) (L1 := 208) rfl rfl h1212 rfl rfl (by decide) (by decide) (Nat.le_of_ble_eq_true rfl) (cont _ (fun h2 hJ2 => ?_))
    refine aw_ieq rfl (fun _ => ?_) (fun w => absurd rfl w)
    exact l_lwQ hJ2 hN ih
set_option maxRecDepth 20000 in
theorem l_law17 (hJ : J N f A B n h) (hN : 6 * n + 6 ≤ N ∧ N ≤ 3072) (ih : ∀ h2, J N f A B (n + 1) h2 → AW am_P 10 256 304 18 [some (.ref 0), some (.ref 8), some (.ref 121), some (.int (nI (6 * (n + 1))))] [] h2 Q) : AW am_P 10 256 304 683 [some (.ref 0), some (.ref 8), some (.ref 121), some (.int (nI (6 * n)))] [] h Q := by
  have hk := hJ.sk
  obtain ⟨fs1, h8⟩ := hk.2.1
  by_cases e5 : f (6 * n + 5) = 0
  · refine aw rfl rfl ?_
    refine aw rfl rfl ?_
    refine aw rfl rfl ?_
    refine aw_c (v := nI 1) rfl (by decide) ?_
    refine aw_addn rfl ?_
    refine aw_iald rfl hk.1 rfl (by omega) (by omega) ?_
    refine aw rfl rfl ?_
    refine aw rfl rfl ?_
    refine aw_c (v := nI 2) rfl (by decide) ?_
    refine aw_addn rfl ?_
    refine aw_iald rfl hk.1 rfl (by omega) (by omega) ?_
    refine aw rfl rfl ?_
    refine aw rfl rfl ?_
    refine aw_c (v := nI 3) rfl (by decide) ?_
    refine aw_addn rfl ?_
    refine aw_iald rfl hk.1 rfl (by omega) (by omega) ?_
    refine aw rfl rfl ?_
    refine aw rfl rfl ?_
    refine aw_c (v := nI 4) rfl (by decide) ?_
    refine aw_addn rfl ?_
    refine aw_iald rfl hk.1 rfl (by omega) (by omega) ?_
    refine aw rfl rfl ?_
    refine aw rfl rfl ?_
    refine aw_c (v := nI 5) rfl (by decide) ?_
    refine aw_addn rfl ?_
    refine aw_iald rfl hk.1 rfl (by omega) (by omega) ?_
    refine aw_eq rfl (fun _ => ?_) (fun w => absurd e5 w)
    refine aw_c (v := nI 0) rfl (by decide) ?_
    refine aw_cv (d1 := 7) (L1 := 178) rfl rfl h8 rfl rfl (by decide) (by decide) (Nat.le_of_ble_eq_true rfl) (j_comes (b := false) hJ (by omega) (fun h1 a hk1 cont => ?_))
    obtain ⟨fs2, h1212⟩ := hk1.2.2
    refine aw rfl rfl ?_
    refine aw rfl rfl ?_
    refine aw rfl rfl ?_
    refine aw_c (v := nI 1) rfl (by decide) ?_
    refine aw_addn rfl ?_
    refine aw_iald rfl hk1.1 rfl (by omega) (by omega) ?_
    refine aw rfl rfl ?_
    refine aw rfl rfl ?_
    refine aw_c (v := nI 2) rfl (by decide) ?_
    refine aw_addn rfl ?_
    refine aw_iald rfl hk1.1 rfl (by omega) (by omega) ?_
    refine aw rfl rfl ?_
    refine aw rfl rfl ?_
    refine aw_c (v := nI 3) rfl (by decide) ?_
    refine aw_addn rfl ?_
    refine aw_iald rfl hk1.1 rfl (by omega) (by omega) ?_
    refine aw rfl rfl ?_
    refine aw rfl rfl ?_
    refine aw_c (v := nI 4) rfl (by decide) ?_
    refine aw_addn rfl ?_
    refine aw_iald rfl hk1.1 rfl (by omega) (by omega) ?_
    refine aw rfl rfl ?_
    refine aw rfl rfl ?_
    refine aw_c (v := nI 5) rfl (by decide) ?_
    refine aw_addn rfl ?_
    refine aw_iald rfl hk1.1 rfl (by omega) (by omega) ?_
    refine aw_eq rfl (fun _ => ?_) (fun w => absurd e5 w)
    refine aw_c (v := nI 0) rfl (by decide) ?_
    refine aw_cv (d1 := 6) (L1 := 156) rfl rfl h1212 rfl rfl (by decide) (by decide) (Nat.le_of_ble_eq_true rfl) (cont _ (fun h2 hJ2 => ?_))
    refine aw_ieq rfl (fun _ => ?_) (fun w => absurd rfl w)
    exact l_lwQ hJ2 hN ih
  · refine aw rfl rfl ?_
    refine aw rfl rfl ?_
    refine aw rfl rfl ?_
    refine aw_c (v := nI 1) rfl (by decide) ?_
    refine aw_addn rfl ?_
    refine aw_iald rfl hk.1 rfl (by omega) (by omega) ?_
    refine aw rfl rfl ?_
    refine aw rfl rfl ?_
    refine aw_c (v := nI 2) rfl (by decide) ?_
    refine aw_addn rfl ?_
    refine aw_iald rfl hk.1 rfl (by omega) (by omega) ?_
    refine aw rfl rfl ?_
    refine aw rfl rfl ?_
    refine aw_c (v := nI 3) rfl (by decide) ?_
    refine aw_addn rfl ?_
    refine aw_iald rfl hk.1 rfl (by omega) (by omega) ?_
    refine aw rfl rfl ?_
    refine aw rfl rfl ?_
    refine aw_c (v := nI 4) rfl (by decide) ?_
    refine aw_addn rfl ?_
    refine aw_iald rfl hk.1 rfl (by omega) (by omega) ?_
    refine aw rfl rfl ?_
    refine aw rfl rfl ?_
    refine aw_c (v := nI 5) rfl (by decide) ?_
    refine aw_addn rfl ?_
    refine aw_iald rfl hk.1 rfl (by omega) (by omega) ?_
    refine aw_eq rfl (fun w => absurd w e5) (fun _ => ?_)
    refine aw_c (v := nI 1) rfl (by decide) ?_
    refine aw rfl rfl ?_
    refine aw_cv (d1 := 7) (L1 := 178) rfl rfl h8 rfl rfl (by decide) (by decide) (Nat.le_of_ble_eq_true rfl) (j_comes (b := true) hJ (by omega) (fun h1 a hk1 cont => ?_))
    obtain ⟨fs2, h1212⟩ := hk1.2.2
    refine aw rfl rfl ?_
    refine aw rfl rfl ?_
    refine aw rfl rfl ?_
    refine aw_c (v := nI 1) rfl (by decide) ?_
    refine aw_addn rfl ?_
    refine aw_iald rfl hk1.1 rfl (by omega) (by omega) ?_
    refine aw rfl rfl ?_
    refine aw rfl rfl ?_
    refine aw_c (v := nI 2) rfl (by decide) ?_
    refine aw_addn rfl ?_
    refine aw_iald rfl hk1.1 rfl (by omega) (by omega) ?_
    refine aw rfl rfl ?_
    refine aw rfl rfl ?_
    refine aw_c (v := nI 3) rfl (by decide) ?_
    refine aw_addn rfl ?_
    refine aw_iald rfl hk1.1 rfl (by omega) (by omega) ?_
    refine aw rfl rfl ?_
    refine aw rfl rfl ?_
    refine aw_c (v := nI 4) rfl (by decide) ?_
    refine aw_addn rfl ?_
    refine aw_iald rfl hk1.1 rfl (by omega) (by omega) ?_
    refine aw rfl rfl ?_
    refine aw rfl rfl ?_
    refine aw_c (v := nI 5) rfl (by decide) ?_
    refine aw_addn rfl ?_
    refine aw_iald rfl hk1.1 rfl (by omega) (by omega) ?_
    refine aw_eq rfl (fun w => absurd w e5) (fun _ => ?_)
    refine aw_c (v := nI 1) rfl (by decide) ?_
    refine aw rfl rfl ?_
    refine aw_cv (d1 := 6) (L1 := 156) rfl rfl h1212 rfl rfl (by decide) (by decide) (Nat.le_of_ble_eq_true rfl) (cont _ (fun h2 hJ2 => ?_))
    refine aw_ieq rfl (fun _ => ?_) (fun w => absurd rfl w)
    exact l_lwQ hJ2 hN ih
set_option maxRecDepth 20000 in
theorem l_law18 (hJ : J N f A B n h) (hN : 6 * n + 6 ≤ N ∧ N ≤ 3072) (ih : ∀ h2, J N f A B (n + 1) h2 → AW am_P 10 256 304 18 [some (.ref 0), some (.ref 8), some (.ref 121), some (.int (nI (6 * (n + 1))))] [] h2 Q) : AW am_P 10 256 304 762 [some (.ref 0), some (.ref 8), some (.ref 121), some (.int (nI (6 * n)))] [] h Q := by
  have hk := hJ.sk
  obtain ⟨fs1, h8⟩ := hk.2.1
  by_cases e2 : f (6 * n + 2) = 0
  · by_cases e3 : f (6 * n + 3) = 0
    · refine aw rfl rfl ?_
      refine aw rfl rfl ?_
      refine aw rfl rfl ?_
      refine aw_c (v := nI 1) rfl (by decide) ?_
      refine aw_addn rfl ?_
      refine aw_iald rfl hk.1 rfl (by omega) (by omega) ?_
      refine aw rfl rfl ?_
      refine aw rfl rfl ?_
      refine aw_c (v := nI 2) rfl (by decide) ?_
      refine aw_addn rfl ?_
      refine aw_iald rfl hk.1 rfl (by omega) (by omega) ?_
      refine aw_eq rfl (fun _ => ?_) (fun w => absurd e2 w)
      refine aw_c (v := nI 0) rfl (by decide) ?_
      refine aw rfl rfl ?_
      refine aw rfl rfl ?_
      refine aw_c (v := nI 3) rfl (by decide) ?_
      refine aw_addn rfl ?_
      refine aw_iald rfl hk.1 rfl (by omega) (by omega) ?_
      refine aw_eq rfl (fun _ => ?_) (fun w => absurd e3 w)
      refine aw_c (v := nI 0) rfl (by decide) ?_
      refine aw_cv (d1 := 7) (L1 := 176) rfl rfl h8 rfl rfl (by decide) (by decide) (Nat.le_of_ble_eq_true rfl) (j_worth (bl := false) (b := false) hJ (by omega) (fun h1 a hk1 cont => ?_))
      obtain ⟨fs2, h1212⟩ := hk1.2.2
      refine aw rfl rfl ?_
      refine aw rfl rfl ?_
      refine aw rfl rfl ?_
      refine aw_c (v := nI 1) rfl (by decide) ?_
      refine aw_addn rfl ?_
      refine aw_iald rfl hk1.1 rfl (by omega) (by omega) ?_
      refine aw rfl rfl ?_
      refine aw rfl rfl ?_
      refine aw_c (v := nI 2) rfl (by decide) ?_
      refine aw_addn rfl ?_
      refine aw_iald rfl hk1.1 rfl (by omega) (by omega) ?_
      refine aw_eq rfl (fun _ => ?_) (fun w => absurd e2 w)
      refine aw_c (v := nI 0) rfl (by decide) ?_
      refine aw rfl rfl ?_
      refine aw rfl rfl ?_
      refine aw_c (v := nI 3) rfl (by decide) ?_
      refine aw_addn rfl ?_
      refine aw_iald rfl hk1.1 rfl (by omega) (by omega) ?_
      refine aw_eq rfl (fun _ => ?_) (fun w => absurd e3 w)
      refine aw_c (v := nI 0) rfl (by decide) ?_
      refine aw_cv (d1 := 9) (L1 := 229) rfl rfl h1212 rfl rfl (by decide) (by decide) (Nat.le_of_ble_eq_true rfl) (cont _ (fun h2 hJ2 => ?_))
      refine aw_ieq rfl (fun _ => ?_) (fun w => absurd rfl w)
      exact l_lwQ hJ2 hN ih
    · refine aw rfl rfl ?_
      refine aw rfl rfl ?_
      refine aw rfl rfl ?_
      refine aw_c (v := nI 1) rfl (by decide) ?_
      refine aw_addn rfl ?_
      refine aw_iald rfl hk.1 rfl (by omega) (by omega) ?_
      refine aw rfl rfl ?_
      refine aw rfl rfl ?_
      refine aw_c (v := nI 2) rfl (by decide) ?_
      refine aw_addn rfl ?_
      refine aw_iald rfl hk.1 rfl (by omega) (by omega) ?_
      refine aw_eq rfl (fun _ => ?_) (fun w => absurd e2 w)
      refine aw_c (v := nI 0) rfl (by decide) ?_
      refine aw rfl rfl ?_
      refine aw rfl rfl ?_
      refine aw_c (v := nI 3) rfl (by decide) ?_
      refine aw_addn rfl ?_
      refine aw_iald rfl hk.1 rfl (by omega) (by omega) ?_
      refine aw_eq rfl (fun w => absurd w e3) (fun _ => ?_)
      refine aw_c (v := nI 1) rfl (by decide) ?_
      refine aw rfl rfl ?_
      refine aw_cv (d1 := 7) (L1 := 176) rfl rfl h8 rfl rfl (by decide) (by decide) (Nat.le_of_ble_eq_true rfl) (j_worth (bl := false) (b := true) hJ (by omega) (fun h1 a hk1 cont => ?_))
      obtain ⟨fs2, h1212⟩ := hk1.2.2
      refine aw rfl rfl ?_
      refine aw rfl rfl ?_
      refine aw rfl rfl ?_
      refine aw_c (v := nI 1) rfl (by decide) ?_
      refine aw_addn rfl ?_
      refine aw_iald rfl hk1.1 rfl (by omega) (by omega) ?_
      refine aw rfl rfl ?_
      refine aw rfl rfl ?_
      refine aw_c (v := nI 2) rfl (by decide) ?_
      refine aw_addn rfl ?_
      refine aw_iald rfl hk1.1 rfl (by omega) (by omega) ?_
      refine aw_eq rfl (fun _ => ?_) (fun w => absurd e2 w)
      refine aw_c (v := nI 0) rfl (by decide) ?_
      refine aw rfl rfl ?_
      refine aw rfl rfl ?_
      refine aw_c (v := nI 3) rfl (by decide) ?_
      refine aw_addn rfl ?_
      refine aw_iald rfl hk1.1 rfl (by omega) (by omega) ?_
      refine aw_eq rfl (fun w => absurd w e3) (fun _ => ?_)
      refine aw_c (v := nI 1) rfl (by decide) ?_
      refine aw rfl rfl ?_
      refine aw_cv (d1 := 9) (L1 := 229) rfl rfl h1212 rfl rfl (by decide) (by decide) (Nat.le_of_ble_eq_true rfl) (cont _ (fun h2 hJ2 => ?_))
      refine aw_ieq rfl (fun _ => ?_) (fun w => absurd rfl w)
      exact l_lwQ hJ2 hN ih
  · by_cases e3 : f (6 * n + 3) = 0
    · refine aw rfl rfl ?_
      refine aw rfl rfl ?_
      refine aw rfl rfl ?_
      refine aw_c (v := nI 1) rfl (by decide) ?_
      refine aw_addn rfl ?_
      refine aw_iald rfl hk.1 rfl (by omega) (by omega) ?_
      refine aw rfl rfl ?_
      refine aw rfl rfl ?_
      refine aw_c (v := nI 2) rfl (by decide) ?_
      refine aw_addn rfl ?_
      refine aw_iald rfl hk.1 rfl (by omega) (by omega) ?_
      refine aw_eq rfl (fun w => absurd w e2) (fun _ => ?_)
      refine aw_c (v := nI 1) rfl (by decide) ?_
      refine aw rfl rfl ?_
      refine aw rfl rfl ?_
      refine aw rfl rfl ?_
      refine aw_c (v := nI 3) rfl (by decide) ?_
      refine aw_addn rfl ?_
      refine aw_iald rfl hk.1 rfl (by omega) (by omega) ?_
      refine aw_eq rfl (fun _ => ?_) (fun w => absurd e3 w)
      refine aw_c (v := nI 0) rfl (by decide) ?_
      refine aw_cv (d1 := 7) (L1 := 176) rfl rfl h8 rfl rfl (by decide) (by decide) (Nat.le_of_ble_eq_true rfl) (j_worth (bl := true) (b := false) hJ (by omega) (fun h1 a hk1 cont => ?_))
      obtain ⟨fs2, h1212⟩ := hk1.2.2
      refine aw rfl rfl ?_
      refine aw rfl rfl ?_
      refine aw rfl rfl ?_
      refine aw_c (v := nI 1) rfl (by decide) ?_
      refine aw_addn rfl ?_
      refine aw_iald rfl hk1.1 rfl (by omega) (by omega) ?_
      refine aw rfl rfl ?_
      refine aw rfl rfl ?_
      refine aw_c (v := nI 2) rfl (by decide) ?_
      refine aw_addn rfl ?_
      refine aw_iald rfl hk1.1 rfl (by omega) (by omega) ?_
      refine aw_eq rfl (fun w => absurd w e2) (fun _ => ?_)
      refine aw_c (v := nI 1) rfl (by decide) ?_
      refine aw rfl rfl ?_
      refine aw rfl rfl ?_
      refine aw rfl rfl ?_
      refine aw_c (v := nI 3) rfl (by decide) ?_
      refine aw_addn rfl ?_
      refine aw_iald rfl hk1.1 rfl (by omega) (by omega) ?_
      refine aw_eq rfl (fun _ => ?_) (fun w => absurd e3 w)
      refine aw_c (v := nI 0) rfl (by decide) ?_
      refine aw_cv (d1 := 9) (L1 := 229) rfl rfl h1212 rfl rfl (by decide) (by decide) (Nat.le_of_ble_eq_true rfl) (cont _ (fun h2 hJ2 => ?_))
      refine aw_ieq rfl (fun _ => ?_) (fun w => absurd rfl w)
      exact l_lwQ hJ2 hN ih
    · refine aw rfl rfl ?_
      refine aw rfl rfl ?_
      refine aw rfl rfl ?_
      refine aw_c (v := nI 1) rfl (by decide) ?_
      refine aw_addn rfl ?_
      refine aw_iald rfl hk.1 rfl (by omega) (by omega) ?_
      refine aw rfl rfl ?_
      refine aw rfl rfl ?_
      refine aw_c (v := nI 2) rfl (by decide) ?_
      refine aw_addn rfl ?_
      refine aw_iald rfl hk.1 rfl (by omega) (by omega) ?_
      refine aw_eq rfl (fun w => absurd w e2) (fun _ => ?_)
      refine aw_c (v := nI 1) rfl (by decide) ?_
      refine aw rfl rfl ?_
      refine aw rfl rfl ?_
      refine aw rfl rfl ?_
      refine aw_c (v := nI 3) rfl (by decide) ?_
      refine aw_addn rfl ?_
      refine aw_iald rfl hk.1 rfl (by omega) (by omega) ?_
      refine aw_eq rfl (fun w => absurd w e3) (fun _ => ?_)
      refine aw_c (v := nI 1) rfl (by decide) ?_
      refine aw rfl rfl ?_
      refine aw_cv (d1 := 7) (L1 := 176) rfl rfl h8 rfl rfl (by decide) (by decide) (Nat.le_of_ble_eq_true rfl) (j_worth (bl := true) (b := true) hJ (by omega) (fun h1 a hk1 cont => ?_))
      obtain ⟨fs2, h1212⟩ := hk1.2.2
      refine aw rfl rfl ?_
      refine aw rfl rfl ?_
      refine aw rfl rfl ?_
      refine aw_c (v := nI 1) rfl (by decide) ?_
      refine aw_addn rfl ?_
      refine aw_iald rfl hk1.1 rfl (by omega) (by omega) ?_
      refine aw rfl rfl ?_
      refine aw rfl rfl ?_
      refine aw_c (v := nI 2) rfl (by decide) ?_
      refine aw_addn rfl ?_
      refine aw_iald rfl hk1.1 rfl (by omega) (by omega) ?_
      refine aw_eq rfl (fun w => absurd w e2) (fun _ => ?_)
      refine aw_c (v := nI 1) rfl (by decide) ?_
      refine aw rfl rfl ?_
      refine aw rfl rfl ?_
      refine aw rfl rfl ?_
      refine aw_c (v := nI 3) rfl (by decide) ?_
      refine aw_addn rfl ?_
      refine aw_iald rfl hk1.1 rfl (by omega) (by omega) ?_
      refine aw_eq rfl (fun w => absurd w e3) (fun _ => ?_)
      refine aw_c (v := nI 1) rfl (by decide) ?_
      refine aw rfl rfl ?_
      refine aw_cv (d1 := 9) (L1 := 229) rfl rfl h1212 rfl rfl (by decide) (by decide) (Nat.le_of_ble_eq_true rfl) (cont _ (fun h2 hJ2 => ?_))
      refine aw_ieq rfl (fun _ => ?_) (fun w => absurd rfl w)
      exact l_lwQ hJ2 hN ih
set_option maxRecDepth 20000 in
theorem l_law19 (hJ : J N f A B n h) (hN : 6 * n + 6 ≤ N ∧ N ≤ 3072) (ih : ∀ h2, J N f A B (n + 1) h2 → AW am_P 10 256 304 18 [some (.ref 0), some (.ref 8), some (.ref 121), some (.int (nI (6 * (n + 1))))] [] h2 Q) : AW am_P 10 256 304 837 [some (.ref 0), some (.ref 8), some (.ref 121), some (.int (nI (6 * n)))] [] h Q := by
  have hk := hJ.sk
  obtain ⟨fs1, h8⟩ := hk.2.1
  refine aw rfl rfl ?_
  refine aw rfl rfl ?_
  refine aw rfl rfl ?_
  refine aw_c (v := nI 1) rfl (by decide) ?_
  refine aw_addn rfl ?_
  refine aw_iald rfl hk.1 rfl (by omega) (by omega) ?_
  refine aw_cv (d1 := 6) (L1 := 155) rfl rfl h8 rfl rfl (by decide) (by decide) (Nat.le_of_ble_eq_true rfl) (j_face hJ (by omega) (fun h1 a hk1 cont => ?_))
  obtain ⟨fs2, h1212⟩ := hk1.2.2
  refine aw rfl rfl ?_
  refine aw rfl rfl ?_
  refine aw rfl rfl ?_
  refine aw_c (v := nI 1) rfl (by decide) ?_
  refine aw_addn rfl ?_
  refine aw_iald rfl hk1.1 rfl (by omega) (by omega) ?_
  refine aw_cv (d1 := 9) (L1 := 229) rfl rfl h1212 rfl rfl (by decide) (by decide) (Nat.le_of_ble_eq_true rfl) (cont _ (fun h2 hJ2 => ?_))
  refine aw_ieq rfl (fun _ => ?_) (fun w => absurd rfl w)
  exact l_lwQ hJ2 hN ih
set_option maxRecDepth 20000 in
theorem l_law20 (hJ : J N f A B n h) (hN : 6 * n + 6 ≤ N ∧ N ≤ 3072) (ih : ∀ h2, J N f A B (n + 1) h2 → AW am_P 10 256 304 18 [some (.ref 0), some (.ref 8), some (.ref 121), some (.int (nI (6 * (n + 1))))] [] h2 Q) : AW am_P 10 256 304 860 [some (.ref 0), some (.ref 8), some (.ref 121), some (.int (nI (6 * n)))] [] h Q := by
  have hk := hJ.sk
  obtain ⟨fs1, h8⟩ := hk.2.1
  refine aw rfl rfl ?_
  refine aw rfl rfl ?_
  refine aw rfl rfl ?_
  refine aw_c (v := nI 1) rfl (by decide) ?_
  refine aw_addn rfl ?_
  refine aw_iald rfl hk.1 rfl (by omega) (by omega) ?_
  refine aw_cv (d1 := 6) (L1 := 155) rfl rfl h8 rfl rfl (by decide) (by decide) (Nat.le_of_ble_eq_true rfl) (j_side hJ (by omega) (fun h1 a hk1 cont => ?_))
  obtain ⟨fs2, h1212⟩ := hk1.2.2
  refine aw rfl rfl ?_
  refine aw rfl rfl ?_
  refine aw rfl rfl ?_
  refine aw_c (v := nI 1) rfl (by decide) ?_
  refine aw_addn rfl ?_
  refine aw_iald rfl hk1.1 rfl (by omega) (by omega) ?_
  refine aw_cv (d1 := 9) (L1 := 229) rfl rfl h1212 rfl rfl (by decide) (by decide) (Nat.le_of_ble_eq_true rfl) (cont _ (fun h2 hJ2 => ?_))
  refine aw_ieq rfl (fun _ => ?_) (fun w => absurd rfl w)
  exact l_lwQ hJ2 hN ih
set_option maxRecDepth 20000 in
theorem l_law21 (hJ : J N f A B n h) (hN : 6 * n + 6 ≤ N ∧ N ≤ 3072) (ih : ∀ h2, J N f A B (n + 1) h2 → AW am_P 10 256 304 18 [some (.ref 0), some (.ref 8), some (.ref 121), some (.int (nI (6 * (n + 1))))] [] h2 Q) : AW am_P 10 256 304 883 [some (.ref 0), some (.ref 8), some (.ref 121), some (.int (nI (6 * n)))] [] h Q := by
  have hk := hJ.sk
  obtain ⟨fs1, h8⟩ := hk.2.1
  refine aw rfl rfl ?_
  refine aw rfl rfl ?_
  refine aw rfl rfl ?_
  refine aw_c (v := nI 1) rfl (by decide) ?_
  refine aw_addn rfl ?_
  refine aw_iald rfl hk.1 rfl (by omega) (by omega) ?_
  refine aw_cv (d1 := 7) (L1 := 179) rfl rfl h8 rfl rfl (by decide) (by decide) (Nat.le_of_ble_eq_true rfl) (j_goBy hJ (by omega) (fun h1 a hk1 cont => ?_))
  obtain ⟨fs2, h1212⟩ := hk1.2.2
  refine aw rfl rfl ?_
  refine aw rfl rfl ?_
  refine aw rfl rfl ?_
  refine aw_c (v := nI 1) rfl (by decide) ?_
  refine aw_addn rfl ?_
  refine aw_iald rfl hk1.1 rfl (by omega) (by omega) ?_
  refine aw_cv (d1 := 8) (L1 := 208) rfl rfl h1212 rfl rfl (by decide) (by decide) (Nat.le_of_ble_eq_true rfl) (cont _ (fun h2 hJ2 => ?_))
  refine aw_ieq rfl (fun _ => ?_) (fun w => absurd rfl w)
  exact l_lwQ hJ2 hN ih
set_option maxRecDepth 20000 in
theorem l_law22 (hJ : J N f A B n h) (hN : 6 * n + 6 ≤ N ∧ N ≤ 3072) (ih : ∀ h2, J N f A B (n + 1) h2 → AW am_P 10 256 304 18 [some (.ref 0), some (.ref 8), some (.ref 121), some (.int (nI (6 * (n + 1))))] [] h2 Q) : AW am_P 10 256 304 906 [some (.ref 0), some (.ref 8), some (.ref 121), some (.int (nI (6 * n)))] [] h Q := by
  have hk := hJ.sk
  obtain ⟨fs1, h8⟩ := hk.2.1
  refine aw rfl rfl ?_
  refine aw rfl rfl ?_
  refine aw rfl rfl ?_
  refine aw_c (v := nI 1) rfl (by decide) ?_
  refine aw_addn rfl ?_
  refine aw_iald rfl hk.1 rfl (by omega) (by omega) ?_
  refine aw rfl rfl ?_
  refine aw rfl rfl ?_
  refine aw_c (v := nI 2) rfl (by decide) ?_
  refine aw_addn rfl ?_
  refine aw_iald rfl hk.1 rfl (by omega) (by omega) ?_
  refine aw rfl rfl ?_
  refine aw rfl rfl ?_
  refine aw_c (v := nI 3) rfl (by decide) ?_
  refine aw_addn rfl ?_
  refine aw_iald rfl hk.1 rfl (by omega) (by omega) ?_
  refine aw_cv (d1 := 7) (L1 := 178) rfl rfl h8 rfl rfl (by decide) (by decide) (Nat.le_of_ble_eq_true rfl) (j_plan hJ (by omega) (fun h1 a hk1 cont => ?_))
  obtain ⟨fs2, h1212⟩ := hk1.2.2
  refine aw rfl rfl ?_
  refine aw rfl rfl ?_
  refine aw rfl rfl ?_
  refine aw_c (v := nI 1) rfl (by decide) ?_
  refine aw_addn rfl ?_
  refine aw_iald rfl hk1.1 rfl (by omega) (by omega) ?_
  refine aw rfl rfl ?_
  refine aw rfl rfl ?_
  refine aw_c (v := nI 2) rfl (by decide) ?_
  refine aw_addn rfl ?_
  refine aw_iald rfl hk1.1 rfl (by omega) (by omega) ?_
  refine aw rfl rfl ?_
  refine aw rfl rfl ?_
  refine aw_c (v := nI 3) rfl (by decide) ?_
  refine aw_addn rfl ?_
  refine aw_iald rfl hk1.1 rfl (by omega) (by omega) ?_
  refine aw_cv (d1 := 8) (L1 := 208) rfl rfl h1212 rfl rfl (by decide) (by decide) (Nat.le_of_ble_eq_true rfl) (cont _ (fun h2 hJ2 => ?_))
  refine aw_ieq rfl (fun _ => ?_) (fun w => absurd rfl w)
  exact l_lwQ hJ2 hN ih
set_option maxRecDepth 20000 in
theorem l_law23 (hJ : J N f A B n h) (hN : 6 * n + 6 ≤ N ∧ N ≤ 3072) (ih : ∀ h2, J N f A B (n + 1) h2 → AW am_P 10 256 304 18 [some (.ref 0), some (.ref 8), some (.ref 121), some (.int (nI (6 * (n + 1))))] [] h2 Q) : AW am_P 10 256 304 949 [some (.ref 0), some (.ref 8), some (.ref 121), some (.int (nI (6 * n)))] [] h Q := by
  have hk := hJ.sk
  obtain ⟨fs1, h8⟩ := hk.2.1
  refine aw rfl rfl ?_
  refine aw rfl rfl ?_
  refine aw rfl rfl ?_
  refine aw_c (v := nI 1) rfl (by decide) ?_
  refine aw_addn rfl ?_
  refine aw_iald rfl hk.1 rfl (by omega) (by omega) ?_
  refine aw_cv (d1 := 6) (L1 := 155) rfl rfl h8 rfl rfl (by decide) (by decide) (Nat.le_of_ble_eq_true rfl) (j_trap hJ (by omega) (fun h1 a hk1 cont => ?_))
  obtain ⟨fs2, h1212⟩ := hk1.2.2
  refine aw rfl rfl ?_
  refine aw rfl rfl ?_
  refine aw rfl rfl ?_
  refine aw_c (v := nI 1) rfl (by decide) ?_
  refine aw_addn rfl ?_
  refine aw_iald rfl hk1.1 rfl (by omega) (by omega) ?_
  refine aw_cv (d1 := 9) (L1 := 229) rfl rfl h1212 rfl rfl (by decide) (by decide) (Nat.le_of_ble_eq_true rfl) (cont _ (fun h2 hJ2 => ?_))
  refine aw_ieq rfl (fun _ => ?_) (fun w => absurd rfl w)
  exact l_lwQ hJ2 hN ih
set_option maxRecDepth 20000 in
theorem l_law24 (hJ : J N f A B n h) (hN : 6 * n + 6 ≤ N ∧ N ≤ 3072) (ih : ∀ h2, J N f A B (n + 1) h2 → AW am_P 10 256 304 18 [some (.ref 0), some (.ref 8), some (.ref 121), some (.int (nI (6 * (n + 1))))] [] h2 Q) : AW am_P 10 256 304 972 [some (.ref 0), some (.ref 8), some (.ref 121), some (.int (nI (6 * n)))] [] h Q := by
  have hk := hJ.sk
  obtain ⟨fs1, h8⟩ := hk.2.1
  by_cases e2 : f (6 * n + 2) = 0
  · refine aw rfl rfl ?_
    refine aw rfl rfl ?_
    refine aw rfl rfl ?_
    refine aw_c (v := nI 1) rfl (by decide) ?_
    refine aw_addn rfl ?_
    refine aw_iald rfl hk.1 rfl (by omega) (by omega) ?_
    refine aw rfl rfl ?_
    refine aw rfl rfl ?_
    refine aw_c (v := nI 2) rfl (by decide) ?_
    refine aw_addn rfl ?_
    refine aw_iald rfl hk.1 rfl (by omega) (by omega) ?_
    refine aw_eq rfl (fun _ => ?_) (fun w => absurd e2 w)
    refine aw_c (v := nI 0) rfl (by decide) ?_
    refine aw_cv (d1 := 7) (L1 := 183) rfl rfl h8 rfl rfl (by decide) (by decide) (Nat.le_of_ble_eq_true rfl) (j_first (b := false) hJ (by omega) (fun h1 a hk1 cont => ?_))
    obtain ⟨fs2, h1212⟩ := hk1.2.2
    refine aw rfl rfl ?_
    refine aw rfl rfl ?_
    refine aw rfl rfl ?_
    refine aw_c (v := nI 1) rfl (by decide) ?_
    refine aw_addn rfl ?_
    refine aw_iald rfl hk1.1 rfl (by omega) (by omega) ?_
    refine aw rfl rfl ?_
    refine aw rfl rfl ?_
    refine aw_c (v := nI 2) rfl (by decide) ?_
    refine aw_addn rfl ?_
    refine aw_iald rfl hk1.1 rfl (by omega) (by omega) ?_
    refine aw_eq rfl (fun _ => ?_) (fun w => absurd e2 w)
    refine aw_c (v := nI 0) rfl (by decide) ?_
    refine aw_cv (d1 := 5) (L1 := 132) rfl rfl h1212 rfl rfl (by decide) (by decide) (Nat.le_of_ble_eq_true rfl) (cont _ (fun h2 hJ2 => ?_))
    refine aw_ieq rfl (fun _ => ?_) (fun w => absurd rfl w)
    exact l_lwQ hJ2 hN ih
  · refine aw rfl rfl ?_
    refine aw rfl rfl ?_
    refine aw rfl rfl ?_
    refine aw_c (v := nI 1) rfl (by decide) ?_
    refine aw_addn rfl ?_
    refine aw_iald rfl hk.1 rfl (by omega) (by omega) ?_
    refine aw rfl rfl ?_
    refine aw rfl rfl ?_
    refine aw_c (v := nI 2) rfl (by decide) ?_
    refine aw_addn rfl ?_
    refine aw_iald rfl hk.1 rfl (by omega) (by omega) ?_
    refine aw_eq rfl (fun w => absurd w e2) (fun _ => ?_)
    refine aw_c (v := nI 1) rfl (by decide) ?_
    refine aw rfl rfl ?_
    refine aw_cv (d1 := 7) (L1 := 183) rfl rfl h8 rfl rfl (by decide) (by decide) (Nat.le_of_ble_eq_true rfl) (j_first (b := true) hJ (by omega) (fun h1 a hk1 cont => ?_))
    obtain ⟨fs2, h1212⟩ := hk1.2.2
    refine aw rfl rfl ?_
    refine aw rfl rfl ?_
    refine aw rfl rfl ?_
    refine aw_c (v := nI 1) rfl (by decide) ?_
    refine aw_addn rfl ?_
    refine aw_iald rfl hk1.1 rfl (by omega) (by omega) ?_
    refine aw rfl rfl ?_
    refine aw rfl rfl ?_
    refine aw_c (v := nI 2) rfl (by decide) ?_
    refine aw_addn rfl ?_
    refine aw_iald rfl hk1.1 rfl (by omega) (by omega) ?_
    refine aw_eq rfl (fun w => absurd w e2) (fun _ => ?_)
    refine aw_c (v := nI 1) rfl (by decide) ?_
    refine aw rfl rfl ?_
    refine aw_cv (d1 := 5) (L1 := 132) rfl rfl h1212 rfl rfl (by decide) (by decide) (Nat.le_of_ble_eq_true rfl) (cont _ (fun h2 hJ2 => ?_))
    refine aw_ieq rfl (fun _ => ?_) (fun w => absurd rfl w)
    exact l_lwQ hJ2 hN ih
set_option maxRecDepth 20000 in
theorem l_law25 (hJ : J N f A B n h) (hN : 6 * n + 6 ≤ N ∧ N ≤ 3072) (ih : ∀ h2, J N f A B (n + 1) h2 → AW am_P 10 256 304 18 [some (.ref 0), some (.ref 8), some (.ref 121), some (.int (nI (6 * (n + 1))))] [] h2 Q) : AW am_P 10 256 304 1021 [some (.ref 0), some (.ref 8), some (.ref 121), some (.int (nI (6 * n)))] [] h Q := by
  have hk := hJ.sk
  obtain ⟨fs1, h8⟩ := hk.2.1
  refine aw rfl rfl ?_
  refine aw_cv (d1 := 2) (L1 := 43) rfl rfl h8 rfl rfl (by decide) (by decide) (Nat.le_of_ble_eq_true rfl) (j_can hJ (by omega) (fun h1 a hk1 cont => ?_))
  obtain ⟨fs2, h1212⟩ := hk1.2.2
  refine aw rfl rfl ?_
  refine aw_cv (d1 := 4) (L1 := 84) rfl rfl h1212 rfl rfl (by decide) (by decide) (Nat.le_of_ble_eq_true rfl) (cont _ (fun h2 hJ2 => ?_))
  refine aw_ieq rfl (fun _ => ?_) (fun w => absurd rfl w)
  exact l_lwQ hJ2 hN ih
set_option maxRecDepth 20000 in
theorem l_law26 (hJ : J N f A B n h) (hN : 6 * n + 6 ≤ N ∧ N ≤ 3072) (ih : ∀ h2, J N f A B (n + 1) h2 → AW am_P 10 256 304 18 [some (.ref 0), some (.ref 8), some (.ref 121), some (.int (nI (6 * (n + 1))))] [] h2 Q) : AW am_P 10 256 304 1034 [some (.ref 0), some (.ref 8), some (.ref 121), some (.int (nI (6 * n)))] [] h Q := by
  have hk := hJ.sk
  obtain ⟨fs1, h8⟩ := hk.2.1
  refine aw rfl rfl ?_
  refine aw rfl rfl ?_
  refine aw rfl rfl ?_
  refine aw_c (v := nI 1) rfl (by decide) ?_
  refine aw_addn rfl ?_
  refine aw_iald rfl hk.1 rfl (by omega) (by omega) ?_
  refine aw rfl rfl ?_
  refine aw rfl rfl ?_
  refine aw_c (v := nI 2) rfl (by decide) ?_
  refine aw_addn rfl ?_
  refine aw_iald rfl hk.1 rfl (by omega) (by omega) ?_
  refine aw_cv (d1 := 1) (L1 := 23) rfl rfl h8 rfl rfl (by decide) (by decide) (Nat.le_of_ble_eq_true rfl) (j_tell hJ (by omega) (fun h1 a hk1 cont => ?_))
  obtain ⟨fs2, h1212⟩ := hk1.2.2
  refine aw rfl rfl ?_
  refine aw rfl rfl ?_
  refine aw rfl rfl ?_
  refine aw_c (v := nI 1) rfl (by decide) ?_
  refine aw_addn rfl ?_
  refine aw_iald rfl hk1.1 rfl (by omega) (by omega) ?_
  refine aw rfl rfl ?_
  refine aw rfl rfl ?_
  refine aw_c (v := nI 2) rfl (by decide) ?_
  refine aw_addn rfl ?_
  refine aw_iald rfl hk1.1 rfl (by omega) (by omega) ?_
  refine aw_cv (d1 := 2) (L1 := 44) rfl rfl h1212 rfl rfl (by decide) (by decide) (Nat.le_of_ble_eq_true rfl) (cont _ (fun h2 hJ2 => ?_))
  refine aw_ieq rfl (fun _ => ?_) (fun w => absurd rfl w)
  exact l_lwQ hJ2 hN ih
set_option maxRecDepth 20000 in
theorem l_law27 (hJ : J N f A B n h) (hN : 6 * n + 6 ≤ N ∧ N ≤ 3072) (ih : ∀ h2, J N f A B (n + 1) h2 → AW am_P 10 256 304 18 [some (.ref 0), some (.ref 8), some (.ref 121), some (.int (nI (6 * (n + 1))))] [] h2 Q) : AW am_P 10 256 304 1067 [some (.ref 0), some (.ref 8), some (.ref 121), some (.int (nI (6 * n)))] [] h Q := by
  have hk := hJ.sk
  obtain ⟨fs1, h8⟩ := hk.2.1
  refine aw rfl rfl ?_
  refine aw_cv (d1 := 1) (L1 := 21) rfl rfl h8 rfl rfl (by decide) (by decide) (Nat.le_of_ble_eq_true rfl) (j_forget hJ (by omega) (fun h1 a hk1 cont => ?_))
  obtain ⟨fs2, h1212⟩ := hk1.2.2
  refine aw rfl rfl ?_
  refine aw_cv (d1 := 0) (L1 := 0) rfl rfl h1212 rfl rfl (by decide) (by decide) (Nat.le_of_ble_eq_true rfl) (cont _ (fun h2 hJ2 => ?_))
  refine aw_ieq rfl (fun _ => ?_) (fun w => absurd rfl w)
  exact l_lwQ hJ2 hN ih
set_option maxRecDepth 20000 in
theorem l_law28 (hJ : J N f A B n h) (hN : 6 * n + 6 ≤ N ∧ N ≤ 3072) (ih : ∀ h2, J N f A B (n + 1) h2 → AW am_P 10 256 304 18 [some (.ref 0), some (.ref 8), some (.ref 121), some (.int (nI (6 * (n + 1))))] [] h2 Q) : AW am_P 10 256 304 1080 [some (.ref 0), some (.ref 8), some (.ref 121), some (.int (nI (6 * n)))] [] h Q := by
  have hk := hJ.sk
  obtain ⟨fs1, h8⟩ := hk.2.1
  refine aw rfl rfl ?_
  refine aw rfl rfl ?_
  refine aw rfl rfl ?_
  refine aw_c (v := nI 1) rfl (by decide) ?_
  refine aw_addn rfl ?_
  refine aw_iald rfl hk.1 rfl (by omega) (by omega) ?_
  refine aw rfl rfl ?_
  refine aw rfl rfl ?_
  refine aw_c (v := nI 2) rfl (by decide) ?_
  refine aw_addn rfl ?_
  refine aw_iald rfl hk.1 rfl (by omega) (by omega) ?_
  refine aw_cv (d1 := 6) (L1 := 154) rfl rfl h8 rfl rfl (by decide) (by decide) (Nat.le_of_ble_eq_true rfl) (j_fits hJ (by omega) (fun h1 a hk1 cont => ?_))
  obtain ⟨fs2, h1212⟩ := hk1.2.2
  refine aw rfl rfl ?_
  refine aw rfl rfl ?_
  refine aw rfl rfl ?_
  refine aw_c (v := nI 1) rfl (by decide) ?_
  refine aw_addn rfl ?_
  refine aw_iald rfl hk1.1 rfl (by omega) (by omega) ?_
  refine aw rfl rfl ?_
  refine aw rfl rfl ?_
  refine aw_c (v := nI 2) rfl (by decide) ?_
  refine aw_addn rfl ?_
  refine aw_iald rfl hk1.1 rfl (by omega) (by omega) ?_
  refine aw_cv (d1 := 7) (L1 := 184) rfl rfl h1212 rfl rfl (by decide) (by decide) (Nat.le_of_ble_eq_true rfl) (cont _ (fun h2 hJ2 => ?_))
  refine aw_ieq rfl (fun _ => ?_) (fun w => absurd rfl w)
  exact l_lwQ hJ2 hN ih
set_option maxRecDepth 20000 in
theorem l_law29 (hJ : J N f A B n h) (hN : 6 * n + 6 ≤ N ∧ N ≤ 3072) (ih : ∀ h2, J N f A B (n + 1) h2 → AW am_P 10 256 304 18 [some (.ref 0), some (.ref 8), some (.ref 121), some (.int (nI (6 * (n + 1))))] [] h2 Q) : AW am_P 10 256 304 1113 [some (.ref 0), some (.ref 8), some (.ref 121), some (.int (nI (6 * n)))] [] h Q := by
  have hk := hJ.sk
  obtain ⟨fs1, h8⟩ := hk.2.1
  refine aw rfl rfl ?_
  refine aw rfl rfl ?_
  refine aw rfl rfl ?_
  refine aw_c (v := nI 1) rfl (by decide) ?_
  refine aw_addn rfl ?_
  refine aw_iald rfl hk.1 rfl (by omega) (by omega) ?_
  refine aw rfl rfl ?_
  refine aw rfl rfl ?_
  refine aw_c (v := nI 2) rfl (by decide) ?_
  refine aw_addn rfl ?_
  refine aw_iald rfl hk.1 rfl (by omega) (by omega) ?_
  refine aw_cv (d1 := 6) (L1 := 154) rfl rfl h8 rfl rfl (by decide) (by decide) (Nat.le_of_ble_eq_true rfl) (j_often hJ (by omega) (fun h1 a hk1 cont => ?_))
  obtain ⟨fs2, h1212⟩ := hk1.2.2
  refine aw rfl rfl ?_
  refine aw rfl rfl ?_
  refine aw rfl rfl ?_
  refine aw_c (v := nI 1) rfl (by decide) ?_
  refine aw_addn rfl ?_
  refine aw_iald rfl hk1.1 rfl (by omega) (by omega) ?_
  refine aw rfl rfl ?_
  refine aw rfl rfl ?_
  refine aw_c (v := nI 2) rfl (by decide) ?_
  refine aw_addn rfl ?_
  refine aw_iald rfl hk1.1 rfl (by omega) (by omega) ?_
  refine aw_cv (d1 := 7) (L1 := 184) rfl rfl h1212 rfl rfl (by decide) (by decide) (Nat.le_of_ble_eq_true rfl) (cont _ (fun h2 hJ2 => ?_))
  refine aw_ieq rfl (fun _ => ?_) (fun w => absurd rfl w)
  exact l_lwQ hJ2 hN ih
set_option maxRecDepth 20000 in
theorem l_law30 (hJ : J N f A B n h) (hN : 6 * n + 6 ≤ N ∧ N ≤ 3072) (ih : ∀ h2, J N f A B (n + 1) h2 → AW am_P 10 256 304 18 [some (.ref 0), some (.ref 8), some (.ref 121), some (.int (nI (6 * (n + 1))))] [] h2 Q) : AW am_P 10 256 304 1146 [some (.ref 0), some (.ref 8), some (.ref 121), some (.int (nI (6 * n)))] [] h Q := by
  have hk := hJ.sk
  obtain ⟨fs1, h8⟩ := hk.2.1
  refine aw rfl rfl ?_
  refine aw rfl rfl ?_
  refine aw rfl rfl ?_
  refine aw_c (v := nI 1) rfl (by decide) ?_
  refine aw_addn rfl ?_
  refine aw_iald rfl hk.1 rfl (by omega) (by omega) ?_
  refine aw_cv (d1 := 1) (L1 := 21) rfl rfl h8 rfl rfl (by decide) (by decide) (Nat.le_of_ble_eq_true rfl) (j_hold hJ (by omega) (fun h1 a hk1 cont => ?_))
  obtain ⟨fs2, h1212⟩ := hk1.2.2
  refine aw rfl rfl ?_
  refine aw rfl rfl ?_
  refine aw rfl rfl ?_
  refine aw_c (v := nI 1) rfl (by decide) ?_
  refine aw_addn rfl ?_
  refine aw_iald rfl hk1.1 rfl (by omega) (by omega) ?_
  refine aw_cv (d1 := 1) (L1 := 22) rfl rfl h1212 rfl rfl (by decide) (by decide) (Nat.le_of_ble_eq_true rfl) (cont _ (fun h2 hJ2 => ?_))
  refine aw_ieq rfl (fun _ => ?_) (fun w => absurd rfl w)
  exact l_lwQ hJ2 hN ih
set_option maxRecDepth 20000 in
theorem l_law31 (hJ : J N f A B n h) (hN : 6 * n + 6 ≤ N ∧ N ≤ 3072) (ih : ∀ h2, J N f A B (n + 1) h2 → AW am_P 10 256 304 18 [some (.ref 0), some (.ref 8), some (.ref 121), some (.int (nI (6 * (n + 1))))] [] h2 Q) : AW am_P 10 256 304 1169 [some (.ref 0), some (.ref 8), some (.ref 121), some (.int (nI (6 * n)))] [] h Q := by
  have hk := hJ.sk
  obtain ⟨fs1, h8⟩ := hk.2.1
  refine aw rfl rfl ?_
  refine aw rfl rfl ?_
  refine aw rfl rfl ?_
  refine aw_c (v := nI 1) rfl (by decide) ?_
  refine aw_addn rfl ?_
  refine aw_iald rfl hk.1 rfl (by omega) (by omega) ?_
  refine aw_cv (d1 := 1) (L1 := 21) rfl rfl h8 rfl rfl (by decide) (by decide) (Nat.le_of_ble_eq_true rfl) (j_restore hJ (by omega) (fun h1 a hk1 cont => ?_))
  obtain ⟨fs2, h1212⟩ := hk1.2.2
  refine aw rfl rfl ?_
  refine aw rfl rfl ?_
  refine aw rfl rfl ?_
  refine aw_c (v := nI 1) rfl (by decide) ?_
  refine aw_addn rfl ?_
  refine aw_iald rfl hk1.1 rfl (by omega) (by omega) ?_
  refine aw_cv (d1 := 1) (L1 := 22) rfl rfl h1212 rfl rfl (by decide) (by decide) (Nat.le_of_ble_eq_true rfl) (cont _ (fun h2 hJ2 => ?_))
  refine aw_ieq rfl (fun _ => ?_) (fun w => absurd rfl w)
  exact l_lwQ hJ2 hN ih
set_option maxRecDepth 20000 in
theorem l_law32 (hJ : J N f A B n h) (hN : 6 * n + 6 ≤ N ∧ N ≤ 3072) (ih : ∀ h2, J N f A B (n + 1) h2 → AW am_P 10 256 304 18 [some (.ref 0), some (.ref 8), some (.ref 121), some (.int (nI (6 * (n + 1))))] [] h2 Q) : AW am_P 10 256 304 1192 [some (.ref 0), some (.ref 8), some (.ref 121), some (.int (nI (6 * n)))] [] h Q := by
  have hk := hJ.sk
  obtain ⟨fs1, h8⟩ := hk.2.1
  refine aw rfl rfl ?_
  refine aw rfl rfl ?_
  refine aw rfl rfl ?_
  refine aw_c (v := nI 1) rfl (by decide) ?_
  refine aw_addn rfl ?_
  refine aw_iald rfl hk.1 rfl (by omega) (by omega) ?_
  refine aw_cv (d1 := 2) (L1 := 43) rfl rfl h8 rfl rfl (by decide) (by decide) (Nat.le_of_ble_eq_true rfl) (j_count hJ (by omega) (fun h1 a hk1 cont => ?_))
  obtain ⟨fs2, h1212⟩ := hk1.2.2
  refine aw rfl rfl ?_
  refine aw rfl rfl ?_
  refine aw rfl rfl ?_
  refine aw_c (v := nI 1) rfl (by decide) ?_
  refine aw_addn rfl ?_
  refine aw_iald rfl hk1.1 rfl (by omega) (by omega) ?_
  refine aw_cv (d1 := 1) (L1 := 22) rfl rfl h1212 rfl rfl (by decide) (by decide) (Nat.le_of_ble_eq_true rfl) (cont _ (fun h2 hJ2 => ?_))
  refine aw_ieq rfl (fun _ => ?_) (fun w => absurd rfl w)
  exact l_lwQ hJ2 hN ih
end L1
