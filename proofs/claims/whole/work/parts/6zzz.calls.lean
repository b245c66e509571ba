/-! ===== one call of both ===== -/
section J3
variable {N A B n : Nat} {f : Nat → Int32} {h : am_H} {Q : Option Value → am_H → Prop}
theorem j_feed (hJ : J N f A B n h) (hn : n < 1000) {x1 x2 x3 x4 x5 : Int32} (q : ∀ h1 a, SK N f h1 → (∀ Q2 : Option Value → am_H → Prop, (∀ h2, J N f A B (n + 1) h2 → Q2 (some (.int a)) h2) → AC am_P 1 22 191 [.ref 121, .int x1, .int x2, .int x3, .int x4, .int x5] h1 Q2) → Q (some (.int a)) h1) : AC am_P 1 22 132 [.ref 8, .int x1, .int x2, .int x3, .int x4, .int x5] h Q := by
  obtain ⟨T0, u0, T1, u1, K, rf, p, k, v, pl, br, lo, c, ct, pr, pt, cm, bf, bt, T, W, S, u, P, td, TD, hd, Z, nt, tp, pc, cc, hC, hM, hCS, hMS, hb, hst, hAB, hcc⟩ := hJ
  have hMS0 := hMS
  obtain ⟨⟨lv, hMR⟩, hG, hN, hS, hHR, hTD, hSL, hTP, hpc, hKY, hcx⟩ := hMS
  refine (congrArg (fun w9 => AC am_P 1 22 132 [.ref 8, .int x1, .int x2, .int x3, .int x4, .int x5] w9 Q) hC).mpr ?_
  refine c_X10_feed hCS (fun K' hCS' hK => ?_)
  obtain ⟨hC1, hM1, hCS1, hst1, hAB1⟩ := j_cls hM hst hAB (GX.kk hK) hCS'
  refine q _ _ (SK.of hC1 hM1 hst1.2) (fun Q2 q2 => ?_)
  refine (congrArg (fun w9 => AC am_P 1 22 191 [.ref 121, .int x1, .int x2, .int x3, .int x4, .int x5] w9 Q2) hM1).mpr ?_
  refine c_X11_feed hMS0 (fun k' hMS' => ?_)
  exact q2 _ (j_mdl hC1 hst1 hAB1 hCS1 hMS' (ftp_8 hb) (by omega))
theorem j_back (hJ : J N f A B n h) (hn : n < 1000) {x : Int32} (q : ∀ h1 a, SK N f h1 → (∀ Q2 : Option Value → am_H → Prop, (∀ h2, J N f A B (n + 1) h2 → Q2 (some (.int a)) h2) → AC am_P 0 0 193 [.ref 121, .int x] h1 Q2) → Q (some (.int a)) h1) : AC am_P 0 0 134 [.ref 8, .int x] h Q := by
  obtain ⟨T0, u0, T1, u1, K, rf, p, k, v, pl, br, lo, c, ct, pr, pt, cm, bf, bt, T, W, S, u, P, td, TD, hd, Z, nt, tp, pc, cc, hC, hM, hCS, hMS, hb, hst, hAB, hcc⟩ := hJ
  have hMS0 := hMS
  obtain ⟨⟨lv, hMR⟩, hG, hN, hS, hHR, hTD, hSL, hTP, hpc, hKY, hcx⟩ := hMS
  refine (congrArg (fun w9 => AC am_P 0 0 134 [.ref 8, .int x] w9 Q) hC).mpr ?_
  refine c_X10_back hCS (fun K' hCS' hK => ?_)
  obtain ⟨hC1, hM1, hCS1, hst1, hAB1⟩ := j_cls hM hst hAB (GX.kk hK) hCS'
  refine q _ _ (SK.of hC1 hM1 hst1.2) (fun Q2 q2 => ?_)
  refine (congrArg (fun w9 => AC am_P 0 0 193 [.ref 121, .int x] w9 Q2) hM1).mpr ?_
  refine c_X11_back hMS0 (fun k' hMS' => ?_)
  exact q2 _ (j_mdl hC1 hst1 hAB1 hCS1 hMS' (bnt_8 hb) (by omega))
theorem j_place (hJ : J N f A B n h) (hn : n < 1000) (q : ∀ h1 a, SK N f h1 → (∀ Q2 : Option Value → am_H → Prop, (∀ h2, J N f A B (n + 1) h2 → Q2 (some (.int a)) h2) → AC am_P 0 0 219 [.ref 121] h1 Q2) → Q (some (.int a)) h1) : AC am_P 0 0 136 [.ref 8] h Q := by
  obtain ⟨T0, u0, T1, u1, K, rf, p, k, v, pl, br, lo, c, ct, pr, pt, cm, bf, bt, T, W, S, u, P, td, TD, hd, Z, nt, tp, pc, cc, hC, hM, hCS, hMS, hb, hst, hAB, hcc⟩ := hJ
  have hMS0 := hMS
  obtain ⟨⟨lv, hMR⟩, hG, hN, hS, hHR, hTD, hSL, hTP, hpc, hKY, hcx⟩ := hMS
  refine (congrArg (fun w9 => AC am_P 0 0 136 [.ref 8] w9 Q) hC).mpr ?_
  refine c_X10_place hCS ?_
  obtain ⟨hC1, hM1, hCS1, hst1, hAB1⟩ := j_cls hM hst hAB GX.rf hCS
  refine q _ _ (SK.of hC1 hM1 hst1.2) (fun Q2 q2 => ?_)
  refine (congrArg (fun w9 => AC am_P 0 0 219 [.ref 121] w9 Q2) hM1).mpr ?_
  refine c_X11_place hMS0 ?_
  exact q2 _ (j_mdl hC1 hst1 hAB1 hCS1 hMS0 hb (by omega))
theorem j_now (hJ : J N f A B n h) (hn : n < 1000) {x : Int32} (q : ∀ h1 a, SK N f h1 → (∀ Q2 : Option Value → am_H → Prop, (∀ h2, J N f A B (n + 1) h2 → Q2 (some (.int a)) h2) → AC am_P 3 64 220 [.ref 121, .int x] h1 Q2) → Q (some (.int a)) h1) : AC am_P 1 20 137 [.ref 8, .int x] h Q := by
  obtain ⟨T0, u0, T1, u1, K, rf, p, k, v, pl, br, lo, c, ct, pr, pt, cm, bf, bt, T, W, S, u, P, td, TD, hd, Z, nt, tp, pc, cc, hC, hM, hCS, hMS, hb, hst, hAB, hcc⟩ := hJ
  have hMS0 := hMS
  obtain ⟨⟨lv, hMR⟩, hG, hN, hS, hHR, hTD, hSL, hTP, hpc, hKY, hcx⟩ := hMS
  refine (congrArg (fun w9 => AC am_P 1 20 137 [.ref 8, .int x] w9 Q) hC).mpr ?_
  refine c_X10_now hCS ?_
  obtain ⟨hC1, hM1, hCS1, hst1, hAB1⟩ := j_cls hM hst hAB GX.rf hCS
  refine q _ _ (SK.of hC1 hM1 hst1.2) (fun Q2 q2 => ?_)
  refine (congrArg (fun w9 => AC am_P 3 64 220 [.ref 121, .int x] w9 Q2) hM1).mpr ?_
  refine c_X11_now hMR hG hN hS.1 ?_
  exact q2 _ (j_mdl hC1 hst1 hAB1 hCS1 hMS0 hb (by omega))
theorem j_square (hJ : J N f A B n h) (hn : n < 1000) {x y : Int32} (q : ∀ h1 a, SK N f h1 → (∀ Q2 : Option Value → am_H → Prop, (∀ h2, J N f A B (n + 1) h2 → Q2 (some (.int a)) h2) → AC am_P 2 44 228 [.ref 121, .int x, .int y] h1 Q2) → Q (some (.int a)) h1) : AC am_P 1 23 140 [.ref 8, .int x, .int y] h Q := by
  obtain ⟨T0, u0, T1, u1, K, rf, p, k, v, pl, br, lo, c, ct, pr, pt, cm, bf, bt, T, W, S, u, P, td, TD, hd, Z, nt, tp, pc, cc, hC, hM, hCS, hMS, hb, hst, hAB, hcc⟩ := hJ
  have hMS0 := hMS
  obtain ⟨⟨lv, hMR⟩, hG, hN, hS, hHR, hTD, hSL, hTP, hpc, hKY, hcx⟩ := hMS
  refine (congrArg (fun w9 => AC am_P 1 23 140 [.ref 8, .int x, .int y] w9 Q) hC).mpr ?_
  refine c_X10_square hCS ?_
  obtain ⟨hC1, hM1, hCS1, hst1, hAB1⟩ := j_cls hM hst hAB GX.rf hCS
  refine q _ _ (SK.of hC1 hM1 hst1.2) (fun Q2 q2 => ?_)
  refine (congrArg (fun w9 => AC am_P 2 44 228 [.ref 121, .int x, .int y] w9 Q2) hM1).mpr ?_
  refine c_X11_square hMR hG ?_
  exact q2 _ (j_mdl hC1 hst1 hAB1 hCS1 hMS0 hb (by omega))
theorem j_cars (hJ : J N f A B n h) (hn : n < 1000) {x y z : Int32} (q : ∀ h1 a, SK N f h1 → (∀ Q2 : Option Value → am_H → Prop, (∀ h2, J N f A B (n + 1) h2 → Q2 (some (.int a)) h2) → AC am_P 3 75 231 [.ref 121, .int x, .int y, .int z] h1 Q2) → Q (some (.int a)) h1) : AC am_P 3 70 141 [.ref 8, .int x, .int y, .int z] h Q := by
  obtain ⟨T0, u0, T1, u1, K, rf, p, k, v, pl, br, lo, c, ct, pr, pt, cm, bf, bt, T, W, S, u, P, td, TD, hd, Z, nt, tp, pc, cc, hC, hM, hCS, hMS, hb, hst, hAB, hcc⟩ := hJ
  have hMS0 := hMS
  obtain ⟨⟨lv, hMR⟩, hG, hN, hS, hHR, hTD, hSL, hTP, hpc, hKY, hcx⟩ := hMS
  refine (congrArg (fun w9 => AC am_P 3 70 141 [.ref 8, .int x, .int y, .int z] w9 Q) hC).mpr ?_
  refine c_X10_cars hCS (fun u0' u1' => ?_)
  obtain ⟨hC1, hM1, hCS1, hst1, hAB1⟩ := j_cls hM hst hAB GX.rf hCS
  refine q _ _ (SK.of hC1 hM1 hst1.2) (fun Q2 q2 => ?_)
  refine (congrArg (fun w9 => AC am_P 3 75 231 [.ref 121, .int x, .int y, .int z] w9 Q2) hM1).mpr ?_
  refine c_X11_cars hMR hG (fun v pl br => ?_)
  exact q2 _ (j_mdl hC1 hst1 hAB1 hCS1 hMS0 hb (by omega))
theorem j_kick (hJ : J N f A B n h) (hn : n < 1000) {x : Int32} (q : ∀ h1 a, SK N f h1 → (∀ Q2 : Option Value → am_H → Prop, (∀ h2, J N f A B (n + 1) h2 → Q2 (some (.int a)) h2) → AC am_P 4 107 235 [.ref 121, .int x] h1 Q2) → Q (some (.int a)) h1) : AC am_P 5 122 142 [.ref 8, .int x] h Q := by
  obtain ⟨T0, u0, T1, u1, K, rf, p, k, v, pl, br, lo, c, ct, pr, pt, cm, bf, bt, T, W, S, u, P, td, TD, hd, Z, nt, tp, pc, cc, hC, hM, hCS, hMS, hb, hst, hAB, hcc⟩ := hJ
  have hMS0 := hMS
  obtain ⟨⟨lv, hMR⟩, hG, hN, hS, hHR, hTD, hSL, hTP, hpc, hKY, hcx⟩ := hMS
  refine (congrArg (fun w9 => AC am_P 5 122 142 [.ref 8, .int x] w9 Q) hC).mpr ?_
  refine c_X10_kick hCS (by omega) (fun hk0 => ?_) (fun hk1 u0' u1' K' hCS' hK => ?_)
  · skip
    obtain ⟨hC1, hM1, hCS1, hst1, hAB1⟩ := j_cls hM hst hAB GX.rf hCS
    refine q _ _ (SK.of hC1 hM1 hst1.2) (fun Q2 q2 => ?_)
    refine (congrArg (fun w9 => AC am_P 4 107 235 [.ref 121, .int x] w9 Q2) hM1).mpr ?_
    refine c_X11_kick hMS0 (by omega) (fun _ => ?_) (fun w => absurd (hk0.symm.trans w) (by decide))
    exact q2 _ (j_mdl hC1 hst1 hAB1 hCS1 hMS0 hb (by omega))
  · skip
    obtain ⟨hC1, hM1, hCS1, hst1, hAB1⟩ := j_cls hM hst hAB (GX.kk hK) hCS'
    refine q _ _ (SK.of hC1 hM1 hst1.2) (fun Q2 q2 => ?_)
    refine (congrArg (fun w9 => AC am_P 4 107 235 [.ref 121, .int x] w9 Q2) hM1).mpr ?_
    refine c_X11_kick hMS0 (by omega) (fun w => absurd (w.symm.trans hk1) (by decide)) (fun _ k' v' pl' br' lo' hMS' => ?_)
    exact q2 _ (j_mdl hC1 hst1 hAB1 hCS1 hMS' hb (by omega))
theorem j_waits (hJ : J N f A B n h) (hn : n < 1000) (q : ∀ h1 a, SK N f h1 → (∀ Q2 : Option Value → am_H → Prop, (∀ h2, J N f A B (n + 1) h2 → Q2 (some (.int a)) h2) → AC am_P 4 97 246 [.ref 121] h1 Q2) → Q (some (.int a)) h1) : AC am_P 5 122 148 [.ref 8] h Q := by
  obtain ⟨T0, u0, T1, u1, K, rf, p, k, v, pl, br, lo, c, ct, pr, pt, cm, bf, bt, T, W, S, u, P, td, TD, hd, Z, nt, tp, pc, cc, hC, hM, hCS, hMS, hb, hst, hAB, hcc⟩ := hJ
  have hMS0 := hMS
  obtain ⟨⟨lv, hMR⟩, hG, hN, hS, hHR, hTD, hSL, hTP, hpc, hKY, hcx⟩ := hMS
  refine (congrArg (fun w9 => AC am_P 5 122 148 [.ref 8] w9 Q) hC).mpr ?_
  refine c_X10_waits hCS (by omega) (fun hk0 => ?_) (fun hk1 u0' u1' K' hCS' hK => ?_)
  · skip
    obtain ⟨hC1, hM1, hCS1, hst1, hAB1⟩ := j_cls hM hst hAB GX.rf hCS
    refine q _ _ (SK.of hC1 hM1 hst1.2) (fun Q2 q2 => ?_)
    refine (congrArg (fun w9 => AC am_P 4 97 246 [.ref 121] w9 Q2) hM1).mpr ?_
    refine c_X11_waits hMS0 (by omega) (fun _ => ?_) (fun w => absurd w hk0)
    exact q2 _ (j_mdl hC1 hst1 hAB1 hCS1 hMS0 hb (by omega))
  · skip
    obtain ⟨hC1, hM1, hCS1, hst1, hAB1⟩ := j_cls hM hst hAB (GX.kk hK) hCS'
    refine q _ _ (SK.of hC1 hM1 hst1.2) (fun Q2 q2 => ?_)
    refine (congrArg (fun w9 => AC am_P 4 97 246 [.ref 121] w9 Q2) hM1).mpr ?_
    refine c_X11_waits hMS0 (by omega) (fun w => absurd hk1 w) (fun _ k' v' pl' br' lo' hMS' => ?_)
    exact q2 _ (j_mdl hC1 hst1 hAB1 hCS1 hMS' hb (by omega))
theorem j_touch (hJ : J N f A B n h) (hn : n < 1000) {x : Int32} (q : ∀ h1 a, SK N f h1 → (∀ Q2 : Option Value → am_H → Prop, (∀ h2, J N f A B (n + 1) h2 → Q2 (some (.int a)) h2) → AC am_P 4 84 248 [.ref 121, .int x] h1 Q2) → Q (some (.int a)) h1) : AC am_P 3 67 149 [.ref 8, .int x] h Q := by
  obtain ⟨T0, u0, T1, u1, K, rf, p, k, v, pl, br, lo, c, ct, pr, pt, cm, bf, bt, T, W, S, u, P, td, TD, hd, Z, nt, tp, pc, cc, hC, hM, hCS, hMS, hb, hst, hAB, hcc⟩ := hJ
  have hMS0 := hMS
  obtain ⟨⟨lv, hMR⟩, hG, hN, hS, hHR, hTD, hSL, hTP, hpc, hKY, hcx⟩ := hMS
  refine (congrArg (fun w9 => AC am_P 3 67 149 [.ref 8, .int x] w9 Q) hC).mpr ?_
  refine c_X10_touch hCS (by omega) (fun hk0 => ?_) (fun s K' hk1 hCS' hK => ?_)
  · skip
    obtain ⟨hC1, hM1, hCS1, hst1, hAB1⟩ := j_cls hM hst hAB GX.rf hCS
    refine q _ _ (SK.of hC1 hM1 hst1.2) (fun Q2 q2 => ?_)
    refine (congrArg (fun w9 => AC am_P 4 84 248 [.ref 121, .int x] w9 Q2) hM1).mpr ?_
    refine c_X11_touch hMS0 (by omega) (fun _ => ?_) (fun s k' w => absurd (hk0.symm.trans w) (by simp))
    exact q2 _ (j_mdl hC1 hst1 hAB1 hCS1 hMS0 hb (by omega))
  · skip
    obtain ⟨hC1, hM1, hCS1, hst1, hAB1⟩ := j_cls hM hst hAB (GX.kk hK) hCS'
    refine q _ _ (SK.of hC1 hM1 hst1.2) (fun Q2 q2 => ?_)
    refine (congrArg (fun w9 => AC am_P 4 84 248 [.ref 121, .int x] w9 Q2) hM1).mpr ?_
    refine c_X11_touch hMS0 (by omega) (fun w => absurd (w.symm.trans hk1) (by simp)) (fun s2 k' hk2 hMS' => ?_)
    have es : s2 = s := by have := hk2.symm.trans hk1; injection this
    subst es
    exact q2 _ (j_mdl hC1 hst1 hAB1 hCS1 hMS' hb (by omega))
theorem j_undo (hJ : J N f A B n h) (hn : n < 1000) (q : ∀ h1 a, SK N f h1 → (∀ Q2 : Option Value → am_H → Prop, (∀ h2, J N f A B (n + 1) h2 → Q2 (some (.int a)) h2) → AC am_P 0 0 250 [.ref 121] h1 Q2) → Q (some (.int a)) h1) : AC am_P 2 42 151 [.ref 8] h Q := by
  obtain ⟨T0, u0, T1, u1, K, rf, p, k, v, pl, br, lo, c, ct, pr, pt, cm, bf, bt, T, W, S, u, P, td, TD, hd, Z, nt, tp, pc, cc, hC, hM, hCS, hMS, hb, hst, hAB, hcc⟩ := hJ
  have hMS0 := hMS
  obtain ⟨⟨lv, hMR⟩, hG, hN, hS, hHR, hTD, hSL, hTP, hpc, hKY, hcx⟩ := hMS
  refine (congrArg (fun w9 => AC am_P 2 42 151 [.ref 8] w9 Q) hC).mpr ?_
  refine c_X10_undo hCS (fun hk0 => ?_) (fun K' hk1 hCS' hK => ?_)
  · skip
    obtain ⟨hC1, hM1, hCS1, hst1, hAB1⟩ := j_cls hM hst hAB GX.rf hCS
    refine q _ _ (SK.of hC1 hM1 hst1.2) (fun Q2 q2 => ?_)
    refine (congrArg (fun w9 => AC am_P 0 0 250 [.ref 121] w9 Q2) hM1).mpr ?_
    refine c_X11_undo hMS0 (fun _ => ?_) (fun k' w => by omega)
    exact q2 _ (j_mdl hC1 hst1 hAB1 hCS1 hMS0 hb (by omega))
  · skip
    obtain ⟨hC1, hM1, hCS1, hst1, hAB1⟩ := j_cls hM hst hAB (GX.kk hK) hCS'
    refine q _ _ (SK.of hC1 hM1 hst1.2) (fun Q2 q2 => ?_)
    refine (congrArg (fun w9 => AC am_P 0 0 250 [.ref 121] w9 Q2) hM1).mpr ?_
    refine c_X11_undo hMS0 (fun w => by omega) (fun k' _ hMS' => ?_)
    exact q2 _ (j_mdl hC1 hst1 hAB1 hCS1 hMS' hb (by omega))
theorem j_brings (hJ : J N f A B n h) (hn : n < 1000) {x y z : Int32} (q : ∀ h1 a, SK N f h1 → (∀ Q2 : Option Value → am_H → Prop, (∀ h2, J N f A B (n + 1) h2 → Q2 (some (.int a)) h2) → AC am_P 4 107 251 [.ref 121, .int x, .int y, .int z] h1 Q2) → Q (some (.int a)) h1) : AC am_P 4 100 152 [.ref 8, .int x, .int y, .int z] h Q := by
  obtain ⟨T0, u0, T1, u1, K, rf, p, k, v, pl, br, lo, c, ct, pr, pt, cm, bf, bt, T, W, S, u, P, td, TD, hd, Z, nt, tp, pc, cc, hC, hM, hCS, hMS, hb, hst, hAB, hcc⟩ := hJ
  have hMS0 := hMS
  obtain ⟨⟨lv, hMR⟩, hG, hN, hS, hHR, hTD, hSL, hTP, hpc, hKY, hcx⟩ := hMS
  refine (congrArg (fun w9 => AC am_P 4 100 152 [.ref 8, .int x, .int y, .int z] w9 Q) hC).mpr ?_
  refine c_X10_brings hCS (fun u0' u1' => ?_)
  obtain ⟨hC1, hM1, hCS1, hst1, hAB1⟩ := j_cls hM hst hAB GX.rf hCS
  refine q _ _ (SK.of hC1 hM1 hst1.2) (fun Q2 q2 => ?_)
  refine (congrArg (fun w9 => AC am_P 4 107 251 [.ref 121, .int x, .int y, .int z] w9 Q2) hM1).mpr ?_
  refine c_X11_brings hMS0 (fun v pl br lo => ?_)
  exact q2 _ (j_mdl hC1 hst1 hAB1 hCS1 hMS0 hb (by omega))
theorem j_home (hJ : J N f A B n h) (hn : n < 1000) {x : Int32} {b : Bool} (q : ∀ h1 a, SK N f h1 → (∀ Q2 : Option Value → am_H → Prop, (∀ h2, J N f A B (n + 1) h2 → Q2 (some (.int a)) h2) → AC am_P 9 229 253 [.ref 121, .int x, .int (bI b)] h1 Q2) → Q (some (.int a)) h1) : AC am_P 7 176 153 [.ref 8, .int x, .int (bI b)] h Q := by
  obtain ⟨T0, u0, T1, u1, K, rf, p, k, v, pl, br, lo, c, ct, pr, pt, cm, bf, bt, T, W, S, u, P, td, TD, hd, Z, nt, tp, pc, cc, hC, hM, hCS, hMS, hb, hst, hAB, hcc⟩ := hJ
  have hMS0 := hMS
  obtain ⟨⟨lv, hMR⟩, hG, hN, hS, hHR, hTD, hSL, hTP, hpc, hKY, hcx⟩ := hMS
  refine (congrArg (fun w9 => AC am_P 7 176 153 [.ref 8, .int x, .int (bI b)] w9 Q) hC).mpr ?_
  refine c_X10_home hCS (fun g' u0' u1' K' rf' hGX hCS' => ?_)
  obtain ⟨hC1, hM1, hCS1, hst1, hAB1⟩ := j_cls hM hst hAB hGX hCS'
  refine q _ _ (SK.of hC1 hM1 hst1.2) (fun Q2 q2 => ?_)
  refine (congrArg (fun w9 => AC am_P 9 229 253 [.ref 121, .int x, .int (bI b)] w9 Q2) hM1).mpr ?_
  refine c_X11_home hMR hG hN hS.1 (fun v pl br lo c ct => ?_)
  exact q2 _ (j_mdl hC1 hst1 hAB1 hCS1 hMS0 hb (by omega))
theorem j_best (hJ : J N f A B n h) (hn : n < 1000) {x : Int32} (q : ∀ h1 a, SK N f h1 → (∀ Q2 : Option Value → am_H → Prop, (∀ h2, J N f A B (n + 1) h2 → Q2 (some (.int a)) h2) → AC am_P 8 208 264 [.ref 121, .int x] h1 Q2) → Q (some (.int a)) h1) : AC am_P 7 178 159 [.ref 8, .int x] h Q := by
  obtain ⟨T0, u0, T1, u1, K, rf, p, k, v, pl, br, lo, c, ct, pr, pt, cm, bf, bt, T, W, S, u, P, td, TD, hd, Z, nt, tp, pc, cc, hC, hM, hCS, hMS, hb, hst, hAB, hcc⟩ := hJ
  have hMS0 := hMS
  obtain ⟨⟨lv, hMR⟩, hG, hN, hS, hHR, hTD, hSL, hTP, hpc, hKY, hcx⟩ := hMS
  refine (congrArg (fun w9 => AC am_P 7 178 159 [.ref 8, .int x] w9 Q) hC).mpr ?_
  refine c_X10_best hCS (fun g' u0' u1' K' rf' hGX hCS' => ?_)
  obtain ⟨hC1, hM1, hCS1, hst1, hAB1⟩ := j_cls hM hst hAB hGX hCS'
  refine q _ _ (SK.of hC1 hM1 hst1.2) (fun Q2 q2 => ?_)
  refine (congrArg (fun w9 => AC am_P 8 208 264 [.ref 121, .int x] w9 Q2) hM1).mpr ?_
  refine c_X11_best hMR hG hN hS.1 (fun v pl br lo c ct => ?_)
  exact q2 _ (j_mdl hC1 hst1 hAB1 hCS1 hMS0 hb (by omega))
theorem j_sure (hJ : J N f A B n h) (hn : n < 1000) {x : Int32} (q : ∀ h1 a, SK N f h1 → (∀ Q2 : Option Value → am_H → Prop, (∀ h2, J N f A B (n + 1) h2 → Q2 (some (.int a)) h2) → AC am_P 9 229 265 [.ref 121, .int x] h1 Q2) → Q (some (.int a)) h1) : AC am_P 7 176 161 [.ref 8, .int x] h Q := by
  obtain ⟨T0, u0, T1, u1, K, rf, p, k, v, pl, br, lo, c, ct, pr, pt, cm, bf, bt, T, W, S, u, P, td, TD, hd, Z, nt, tp, pc, cc, hC, hM, hCS, hMS, hb, hst, hAB, hcc⟩ := hJ
  have hMS0 := hMS
  obtain ⟨⟨lv, hMR⟩, hG, hN, hS, hHR, hTD, hSL, hTP, hpc, hKY, hcx⟩ := hMS
  refine (congrArg (fun w9 => AC am_P 7 176 161 [.ref 8, .int x] w9 Q) hC).mpr ?_
  refine c_X10_sure hCS (fun g' u0' u1' K' rf' hGX hCS' => ?_)
  obtain ⟨hC1, hM1, hCS1, hst1, hAB1⟩ := j_cls hM hst hAB hGX hCS'
  refine q _ _ (SK.of hC1 hM1 hst1.2) (fun Q2 q2 => ?_)
  refine (congrArg (fun w9 => AC am_P 9 229 265 [.ref 121, .int x] w9 Q2) hM1).mpr ?_
  refine c_X11_sure hMR hG hN hS.1 (fun v pl br lo c ct => ?_)
  exact q2 _ (j_mdl hC1 hst1 hAB1 hCS1 hMS0 hb (by omega))
theorem j_least (hJ : J N f A B n h) (hn : n < 1000) {x : Int32} (q : ∀ h1 a, SK N f h1 → (∀ Q2 : Option Value → am_H → Prop, (∀ h2, J N f A B (n + 1) h2 → Q2 (some (.int a)) h2) → AC am_P 9 229 266 [.ref 121, .int x] h1 Q2) → Q (some (.int a)) h1) : AC am_P 7 176 162 [.ref 8, .int x] h Q := by
  obtain ⟨T0, u0, T1, u1, K, rf, p, k, v, pl, br, lo, c, ct, pr, pt, cm, bf, bt, T, W, S, u, P, td, TD, hd, Z, nt, tp, pc, cc, hC, hM, hCS, hMS, hb, hst, hAB, hcc⟩ := hJ
  have hMS0 := hMS
  obtain ⟨⟨lv, hMR⟩, hG, hN, hS, hHR, hTD, hSL, hTP, hpc, hKY, hcx⟩ := hMS
  refine (congrArg (fun w9 => AC am_P 7 176 162 [.ref 8, .int x] w9 Q) hC).mpr ?_
  refine c_X10_least hCS (fun g' u0' u1' K' rf' hGX hCS' => ?_)
  obtain ⟨hC1, hM1, hCS1, hst1, hAB1⟩ := j_cls hM hst hAB hGX hCS'
  refine q _ _ (SK.of hC1 hM1 hst1.2) (fun Q2 q2 => ?_)
  refine (congrArg (fun w9 => AC am_P 9 229 266 [.ref 121, .int x] w9 Q2) hM1).mpr ?_
  refine c_X11_least hMR hG hN hS.1 (fun v pl br lo c ct => ?_)
  exact q2 _ (j_mdl hC1 hst1 hAB1 hCS1 hMS0 hb (by omega))
theorem j_rule (hJ : J N f A B n h) (hn : n < 1000) {y x : Int32} {b : Bool} (q : ∀ h1 a, SK N f h1 → (∀ Q2 : Option Value → am_H → Prop, (∀ h2, J N f A B (n + 1) h2 → Q2 (some (.int a)) h2) → AC am_P 8 208 267 [.ref 121, .int y, .int x, .int (bI b)] h1 Q2) → Q (some (.int a)) h1) : AC am_P 7 178 163 [.ref 8, .int y, .int x, .int (bI b)] h Q := by
  obtain ⟨T0, u0, T1, u1, K, rf, p, k, v, pl, br, lo, c, ct, pr, pt, cm, bf, bt, T, W, S, u, P, td, TD, hd, Z, nt, tp, pc, cc, hC, hM, hCS, hMS, hb, hst, hAB, hcc⟩ := hJ
  have hMS0 := hMS
  obtain ⟨⟨lv, hMR⟩, hG, hN, hS, hHR, hTD, hSL, hTP, hpc, hKY, hcx⟩ := hMS
  refine (congrArg (fun w9 => AC am_P 7 178 163 [.ref 8, .int y, .int x, .int (bI b)] w9 Q) hC).mpr ?_
  refine c_X10_rule hCS (fun g' u0' u1' K' rf' hGX hCS' => ?_)
  obtain ⟨hC1, hM1, hCS1, hst1, hAB1⟩ := j_cls hM hst hAB hGX hCS'
  refine q _ _ (SK.of hC1 hM1 hst1.2) (fun Q2 q2 => ?_)
  refine (congrArg (fun w9 => AC am_P 8 208 267 [.ref 121, .int y, .int x, .int (bI b)] w9 Q2) hM1).mpr ?_
  refine c_X11_rule hMR hG hN hS.1 (fun v pl br lo c ct => ?_)
  exact q2 _ (j_mdl hC1 hst1 hAB1 hCS1 hMS0 hb (by omega))
theorem j_comes (hJ : J N f A B n h) (hn : n < 1000) {y x z1 z2 : Int32} {b : Bool} (q : ∀ h1 a, SK N f h1 → (∀ Q2 : Option Value → am_H → Prop, (∀ h2, J N f A B (n + 1) h2 → Q2 (some (.int a)) h2) → AC am_P 6 156 269 [.ref 121, .int y, .int x, .int z1, .int z2, .int (bI b)] h1 Q2) → Q (some (.int a)) h1) : AC am_P 7 178 165 [.ref 8, .int y, .int x, .int z1, .int z2, .int (bI b)] h Q := by
  obtain ⟨T0, u0, T1, u1, K, rf, p, k, v, pl, br, lo, c, ct, pr, pt, cm, bf, bt, T, W, S, u, P, td, TD, hd, Z, nt, tp, pc, cc, hC, hM, hCS, hMS, hb, hst, hAB, hcc⟩ := hJ
  have hMS0 := hMS
  obtain ⟨⟨lv, hMR⟩, hG, hN, hS, hHR, hTD, hSL, hTP, hpc, hKY, hcx⟩ := hMS
  refine (congrArg (fun w9 => AC am_P 7 178 165 [.ref 8, .int y, .int x, .int z1, .int z2, .int (bI b)] w9 Q) hC).mpr ?_
  refine c_X10_comes hCS (fun g' u0' u1' K' rf' hGX hCS' => ?_)
  obtain ⟨hC1, hM1, hCS1, hst1, hAB1⟩ := j_cls hM hst hAB hGX hCS'
  refine q _ _ (SK.of hC1 hM1 hst1.2) (fun Q2 q2 => ?_)
  refine (congrArg (fun w9 => AC am_P 6 156 269 [.ref 121, .int y, .int x, .int z1, .int z2, .int (bI b)] w9 Q2) hM1).mpr ?_
  refine c_X11_comes hMR hG hN hS.1 (fun v pl br lo c ct => ?_)
  exact q2 _ (j_mdl hC1 hst1 hAB1 hCS1 hMS0 hb (by omega))
theorem j_worth (hJ : J N f A B n h) (hn : n < 1000) {x : Int32} {bl b : Bool} (q : ∀ h1 a, SK N f h1 → (∀ Q2 : Option Value → am_H → Prop, (∀ h2, J N f A B (n + 1) h2 → Q2 (some (.int a)) h2) → AC am_P 9 229 272 [.ref 121, .int x, .int (bI bl), .int (bI b)] h1 Q2) → Q (some (.int a)) h1) : AC am_P 7 176 166 [.ref 8, .int x, .int (bI bl), .int (bI b)] h Q := by
  obtain ⟨T0, u0, T1, u1, K, rf, p, k, v, pl, br, lo, c, ct, pr, pt, cm, bf, bt, T, W, S, u, P, td, TD, hd, Z, nt, tp, pc, cc, hC, hM, hCS, hMS, hb, hst, hAB, hcc⟩ := hJ
  have hMS0 := hMS
  obtain ⟨⟨lv, hMR⟩, hG, hN, hS, hHR, hTD, hSL, hTP, hpc, hKY, hcx⟩ := hMS
  refine (congrArg (fun w9 => AC am_P 7 176 166 [.ref 8, .int x, .int (bI bl), .int (bI b)] w9 Q) hC).mpr ?_
  refine c_X10_worth hCS (fun g' u0' u1' K' rf' hGX hCS' => ?_)
  obtain ⟨hC1, hM1, hCS1, hst1, hAB1⟩ := j_cls hM hst hAB hGX hCS'
  refine q _ _ (SK.of hC1 hM1 hst1.2) (fun Q2 q2 => ?_)
  refine (congrArg (fun w9 => AC am_P 9 229 272 [.ref 121, .int x, .int (bI bl), .int (bI b)] w9 Q2) hM1).mpr ?_
  refine c_X11_worth hMR hG hN hS.1 (fun v pl br lo c ct => ?_)
  exact q2 _ (j_mdl hC1 hst1 hAB1 hCS1 hMS0 hb (by omega))
theorem j_face (hJ : J N f A B n h) (hn : n < 1000) {x : Int32} (q : ∀ h1 a, SK N f h1 → (∀ Q2 : Option Value → am_H → Prop, (∀ h2, J N f A B (n + 1) h2 → Q2 (some (.int a)) h2) → AC am_P 9 229 273 [.ref 121, .int x] h1 Q2) → Q (some (.int a)) h1) : AC am_P 6 155 168 [.ref 8, .int x] h Q := by
  obtain ⟨T0, u0, T1, u1, K, rf, p, k, v, pl, br, lo, c, ct, pr, pt, cm, bf, bt, T, W, S, u, P, td, TD, hd, Z, nt, tp, pc, cc, hC, hM, hCS, hMS, hb, hst, hAB, hcc⟩ := hJ
  have hMS0 := hMS
  obtain ⟨⟨lv, hMR⟩, hG, hN, hS, hHR, hTD, hSL, hTP, hpc, hKY, hcx⟩ := hMS
  refine (congrArg (fun w9 => AC am_P 6 155 168 [.ref 8, .int x] w9 Q) hC).mpr ?_
  refine c_X10_face hCS (fun g' u0' u1' K' rf' hGX hCS' => ?_)
  obtain ⟨hC1, hM1, hCS1, hst1, hAB1⟩ := j_cls hM hst hAB hGX hCS'
  refine q _ _ (SK.of hC1 hM1 hst1.2) (fun Q2 q2 => ?_)
  refine (congrArg (fun w9 => AC am_P 9 229 273 [.ref 121, .int x] w9 Q2) hM1).mpr ?_
  refine c_X11_face hMR hG hN hS.1 (fun v pl br lo c ct => ?_)
  exact q2 _ (j_mdl hC1 hst1 hAB1 hCS1 hMS0 hb (by omega))
theorem j_side (hJ : J N f A B n h) (hn : n < 1000) {x : Int32} (q : ∀ h1 a, SK N f h1 → (∀ Q2 : Option Value → am_H → Prop, (∀ h2, J N f A B (n + 1) h2 → Q2 (some (.int a)) h2) → AC am_P 9 229 274 [.ref 121, .int x] h1 Q2) → Q (some (.int a)) h1) : AC am_P 6 155 169 [.ref 8, .int x] h Q := by
  obtain ⟨T0, u0, T1, u1, K, rf, p, k, v, pl, br, lo, c, ct, pr, pt, cm, bf, bt, T, W, S, u, P, td, TD, hd, Z, nt, tp, pc, cc, hC, hM, hCS, hMS, hb, hst, hAB, hcc⟩ := hJ
  have hMS0 := hMS
  obtain ⟨⟨lv, hMR⟩, hG, hN, hS, hHR, hTD, hSL, hTP, hpc, hKY, hcx⟩ := hMS
  refine (congrArg (fun w9 => AC am_P 6 155 169 [.ref 8, .int x] w9 Q) hC).mpr ?_
  refine c_X10_side hCS (fun g' u0' u1' K' rf' hGX hCS' => ?_)
  obtain ⟨hC1, hM1, hCS1, hst1, hAB1⟩ := j_cls hM hst hAB hGX hCS'
  refine q _ _ (SK.of hC1 hM1 hst1.2) (fun Q2 q2 => ?_)
  refine (congrArg (fun w9 => AC am_P 9 229 274 [.ref 121, .int x] w9 Q2) hM1).mpr ?_
  refine c_X11_side hMR hG hN hS.1 (fun v pl br lo c ct => ?_)
  exact q2 _ (j_mdl hC1 hst1 hAB1 hCS1 hMS0 hb (by omega))
theorem j_goBy (hJ : J N f A B n h) (hn : n < 1000) {x : Int32} (q : ∀ h1 a, SK N f h1 → (∀ Q2 : Option Value → am_H → Prop, (∀ h2, J N f A B (n + 1) h2 → Q2 (some (.int a)) h2) → AC am_P 8 208 275 [.ref 121, .int x] h1 Q2) → Q (some (.int a)) h1) : AC am_P 7 179 170 [.ref 8, .int x] h Q := by
  obtain ⟨T0, u0, T1, u1, K, rf, p, k, v, pl, br, lo, c, ct, pr, pt, cm, bf, bt, T, W, S, u, P, td, TD, hd, Z, nt, tp, pc, cc, hC, hM, hCS, hMS, hb, hst, hAB, hcc⟩ := hJ
  have hMS0 := hMS
  obtain ⟨⟨lv, hMR⟩, hG, hN, hS, hHR, hTD, hSL, hTP, hpc, hKY, hcx⟩ := hMS
  refine (congrArg (fun w9 => AC am_P 7 179 170 [.ref 8, .int x] w9 Q) hC).mpr ?_
  refine c_X10_goBy hCS (fun g' u0' u1' K' rf' hGX hCS' => ?_)
  obtain ⟨hC1, hM1, hCS1, hst1, hAB1⟩ := j_cls hM hst hAB hGX hCS'
  refine q _ _ (SK.of hC1 hM1 hst1.2) (fun Q2 q2 => ?_)
  refine (congrArg (fun w9 => AC am_P 8 208 275 [.ref 121, .int x] w9 Q2) hM1).mpr ?_
  refine c_X11_goBy hMR hG hN hS.1 (fun v pl br lo c ct => ?_)
  exact q2 _ (j_mdl hC1 hst1 hAB1 hCS1 hMS0 hb (by omega))
theorem j_plan (hJ : J N f A B n h) (hn : n < 1000) {x y z : Int32} (q : ∀ h1 a, SK N f h1 → (∀ Q2 : Option Value → am_H → Prop, (∀ h2, J N f A B (n + 1) h2 → Q2 (some (.int a)) h2) → AC am_P 8 208 276 [.ref 121, .int x, .int y, .int z] h1 Q2) → Q (some (.int a)) h1) : AC am_P 7 178 172 [.ref 8, .int x, .int y, .int z] h Q := by
  obtain ⟨T0, u0, T1, u1, K, rf, p, k, v, pl, br, lo, c, ct, pr, pt, cm, bf, bt, T, W, S, u, P, td, TD, hd, Z, nt, tp, pc, cc, hC, hM, hCS, hMS, hb, hst, hAB, hcc⟩ := hJ
  have hMS0 := hMS
  obtain ⟨⟨lv, hMR⟩, hG, hN, hS, hHR, hTD, hSL, hTP, hpc, hKY, hcx⟩ := hMS
  refine (congrArg (fun w9 => AC am_P 7 178 172 [.ref 8, .int x, .int y, .int z] w9 Q) hC).mpr ?_
  refine c_X10_plan hCS (fun g' u0' u1' K' rf' hGX hCS' => ?_)
  obtain ⟨hC1, hM1, hCS1, hst1, hAB1⟩ := j_cls hM hst hAB hGX hCS'
  refine q _ _ (SK.of hC1 hM1 hst1.2) (fun Q2 q2 => ?_)
  refine (congrArg (fun w9 => AC am_P 8 208 276 [.ref 121, .int x, .int y, .int z] w9 Q2) hM1).mpr ?_
  refine c_X11_plan hMR hG hN hS.1 (fun v pl br lo c ct => ?_)
  exact q2 _ (j_mdl hC1 hst1 hAB1 hCS1 hMS0 hb (by omega))
theorem j_trap (hJ : J N f A B n h) (hn : n < 1000) {x : Int32} (q : ∀ h1 a, SK N f h1 → (∀ Q2 : Option Value → am_H → Prop, (∀ h2, J N f A B (n + 1) h2 → Q2 (some (.int a)) h2) → AC am_P 9 229 277 [.ref 121, .int x] h1 Q2) → Q (some (.int a)) h1) : AC am_P 6 155 173 [.ref 8, .int x] h Q := by
  obtain ⟨T0, u0, T1, u1, K, rf, p, k, v, pl, br, lo, c, ct, pr, pt, cm, bf, bt, T, W, S, u, P, td, TD, hd, Z, nt, tp, pc, cc, hC, hM, hCS, hMS, hb, hst, hAB, hcc⟩ := hJ
  have hMS0 := hMS
  obtain ⟨⟨lv, hMR⟩, hG, hN, hS, hHR, hTD, hSL, hTP, hpc, hKY, hcx⟩ := hMS
  refine (congrArg (fun w9 => AC am_P 6 155 173 [.ref 8, .int x] w9 Q) hC).mpr ?_
  refine c_X10_trap hCS (fun g' u0' u1' K' rf' hGX hCS' => ?_)
  obtain ⟨hC1, hM1, hCS1, hst1, hAB1⟩ := j_cls hM hst hAB hGX hCS'
  refine q _ _ (SK.of hC1 hM1 hst1.2) (fun Q2 q2 => ?_)
  refine (congrArg (fun w9 => AC am_P 9 229 277 [.ref 121, .int x] w9 Q2) hM1).mpr ?_
  refine c_X11_trap hMR hG hN hS.1 (fun v pl br lo c ct => ?_)
  exact q2 _ (j_mdl hC1 hst1 hAB1 hCS1 hMS0 hb (by omega))
theorem j_first (hJ : J N f A B n h) (hn : n < 1000) {x : Int32} {b : Bool} (q : ∀ h1 a, SK N f h1 → (∀ Q2 : Option Value → am_H → Prop, (∀ h2, J N f A B (n + 1) h2 → Q2 (some (.int a)) h2) → AC am_P 5 132 278 [.ref 121, .int x, .int (bI b)] h1 Q2) → Q (some (.int a)) h1) : AC am_P 7 183 175 [.ref 8, .int x, .int (bI b)] h Q := by
  obtain ⟨T0, u0, T1, u1, K, rf, p, k, v, pl, br, lo, c, ct, pr, pt, cm, bf, bt, T, W, S, u, P, td, TD, hd, Z, nt, tp, pc, cc, hC, hM, hCS, hMS, hb, hst, hAB, hcc⟩ := hJ
  have hMS0 := hMS
  obtain ⟨⟨lv, hMR⟩, hG, hN, hS, hHR, hTD, hSL, hTP, hpc, hKY, hcx⟩ := hMS
  refine (congrArg (fun w9 => AC am_P 7 183 175 [.ref 8, .int x, .int (bI b)] w9 Q) hC).mpr ?_
  refine c_X10_first hCS (fun g' u0' u1' K' rf' hGX hCS' => ?_)
  obtain ⟨hC1, hM1, hCS1, hst1, hAB1⟩ := j_cls hM hst hAB hGX hCS'
  refine q _ _ (SK.of hC1 hM1 hst1.2) (fun Q2 q2 => ?_)
  refine (congrArg (fun w9 => AC am_P 5 132 278 [.ref 121, .int x, .int (bI b)] w9 Q2) hM1).mpr ?_
  refine c_X11_first hMR hG hN hS.1 (fun v pl br lo pr pt cm => ?_)
  exact q2 _ (j_mdl hC1 hst1 hAB1 hCS1 hMS0 hb (by omega))
theorem j_can (hJ : J N f A B n h) (hn : n < 1000) (q : ∀ h1 a, SK N f h1 → (∀ Q2 : Option Value → am_H → Prop, (∀ h2, J N f A B (n + 1) h2 → Q2 (some (.int a)) h2) → AC am_P 4 84 252 [.ref 121] h1 Q2) → Q (some (.int a)) h1) : AC am_P 2 43 176 [.ref 8] h Q := by
  obtain ⟨T0, u0, T1, u1, K, rf, p, k, v, pl, br, lo, c, ct, pr, pt, cm, bf, bt, T, W, S, u, P, td, TD, hd, Z, nt, tp, pc, cc, hC, hM, hCS, hMS, hb, hst, hAB, hcc⟩ := hJ
  have hMS0 := hMS
  obtain ⟨⟨lv, hMR⟩, hG, hN, hS, hHR, hTD, hSL, hTP, hpc, hKY, hcx⟩ := hMS
  refine (congrArg (fun w9 => AC am_P 2 43 176 [.ref 8] w9 Q) hC).mpr ?_
  refine c_X10_can hCS ?_
  obtain ⟨hC1, hM1, hCS1, hst1, hAB1⟩ := j_cls hM hst hAB GX.rf hCS
  refine q _ _ (SK.of hC1 hM1 hst1.2) (fun Q2 q2 => ?_)
  refine (congrArg (fun w9 => AC am_P 4 84 252 [.ref 121] w9 Q2) hM1).mpr ?_
  refine c_X11_can hMR hG hN hS.1 ?_
  exact q2 _ (j_mdl hC1 hst1 hAB1 hCS1 hMS0 hb (by omega))
theorem j_tell (hJ : J N f A B n h) (hn : n < 1000) {x y : Int32} (q : ∀ h1 a, SK N f h1 → (∀ Q2 : Option Value → am_H → Prop, (∀ h2, J N f A B (n + 1) h2 → Q2 (some (.int a)) h2) → AC am_P 2 44 283 [.ref 121, .int x, .int y] h1 Q2) → Q (some (.int a)) h1) : AC am_P 1 23 177 [.ref 8, .int x, .int y] h Q := by
  obtain ⟨T0, u0, T1, u1, K, rf, p, k, v, pl, br, lo, c, ct, pr, pt, cm, bf, bt, T, W, S, u, P, td, TD, hd, Z, nt, tp, pc, cc, hC, hM, hCS, hMS, hb, hst, hAB, hcc⟩ := hJ
  have hMS0 := hMS
  obtain ⟨⟨lv, hMR⟩, hG, hN, hS, hHR, hTD, hSL, hTP, hpc, hKY, hcx⟩ := hMS
  refine (congrArg (fun w9 => AC am_P 1 23 177 [.ref 8, .int x, .int y] w9 Q) hC).mpr ?_
  refine c_X10_tell hCS (fun K' hCS' hK => ?_)
  obtain ⟨hC1, hM1, hCS1, hst1, hAB1⟩ := j_cls hM hst hAB (GX.kk hK) hCS'
  refine q _ _ (SK.of hC1 hM1 hst1.2) (fun Q2 q2 => ?_)
  refine (congrArg (fun w9 => AC am_P 2 44 283 [.ref 121, .int x, .int y] w9 Q2) hM1).mpr ?_
  refine c_X11_tell hMS0 (fun k' hMS' => ?_)
  exact q2 _ (j_mdl hC1 hst1 hAB1 hCS1 hMS' hb (by omega))
theorem j_forget (hJ : J N f A B n h) (hn : n < 1000) (q : ∀ h1 a, SK N f h1 → (∀ Q2 : Option Value → am_H → Prop, (∀ h2, J N f A B (n + 1) h2 → Q2 (some (.int a)) h2) → AC am_P 0 0 284 [.ref 121] h1 Q2) → Q (some (.int a)) h1) : AC am_P 1 21 178 [.ref 8] h Q := by
  obtain ⟨T0, u0, T1, u1, K, rf, p, k, v, pl, br, lo, c, ct, pr, pt, cm, bf, bt, T, W, S, u, P, td, TD, hd, Z, nt, tp, pc, cc, hC, hM, hCS, hMS, hb, hst, hAB, hcc⟩ := hJ
  have hMS0 := hMS
  obtain ⟨⟨lv, hMR⟩, hG, hN, hS, hHR, hTD, hSL, hTP, hpc, hKY, hcx⟩ := hMS
  refine (congrArg (fun w9 => AC am_P 1 21 178 [.ref 8] w9 Q) hC).mpr ?_
  refine c_X10_forget hCS (fun K' hCS' hK => ?_)
  obtain ⟨hC1, hM1, hCS1, hst1, hAB1⟩ := j_cls hM hst hAB (GX.kk hK) hCS'
  refine q _ _ (SK.of hC1 hM1 hst1.2) (fun Q2 q2 => ?_)
  refine (congrArg (fun w9 => AC am_P 0 0 284 [.ref 121] w9 Q2) hM1).mpr ?_
  refine c_X11_forget hMS0 (fun k' hMS' => ?_)
  exact q2 _ (j_mdl hC1 hst1 hAB1 hCS1 hMS' hb (by omega))
theorem j_fits (hJ : J N f A B n h) (hn : n < 1000) {y x : Int32} (q : ∀ h1 a, SK N f h1 → (∀ Q2 : Option Value → am_H → Prop, (∀ h2, J N f A B (n + 1) h2 → Q2 (some (.int a)) h2) → AC am_P 7 184 285 [.ref 121, .int y, .int x] h1 Q2) → Q (some (.int a)) h1) : AC am_P 6 154 179 [.ref 8, .int y, .int x] h Q := by
  obtain ⟨T0, u0, T1, u1, K, rf, p, k, v, pl, br, lo, c, ct, pr, pt, cm, bf, bt, T, W, S, u, P, td, TD, hd, Z, nt, tp, pc, cc, hC, hM, hCS, hMS, hb, hst, hAB, hcc⟩ := hJ
  have hMS0 := hMS
  obtain ⟨⟨lv, hMR⟩, hG, hN, hS, hHR, hTD, hSL, hTP, hpc, hKY, hcx⟩ := hMS
  refine (congrArg (fun w9 => AC am_P 6 154 179 [.ref 8, .int y, .int x] w9 Q) hC).mpr ?_
  refine c_X10_fits hCS (fun u0' u1' K' hCS' hK => ?_)
  obtain ⟨hC1, hM1, hCS1, hst1, hAB1⟩ := j_cls hM hst hAB (GX.kk hK) hCS'
  refine q _ _ (SK.of hC1 hM1 hst1.2) (fun Q2 q2 => ?_)
  refine (congrArg (fun w9 => AC am_P 7 184 285 [.ref 121, .int y, .int x] w9 Q2) hM1).mpr ?_
  refine c_X11_fits hMR hG hTD (fun v pl br lo bf bt => ?_)
  exact q2 _ (j_mdl hC1 hst1 hAB1 hCS1 hMS0 hb (by omega))
theorem j_often (hJ : J N f A B n h) (hn : n < 1000) {y x : Int32} (q : ∀ h1 a, SK N f h1 → (∀ Q2 : Option Value → am_H → Prop, (∀ h2, J N f A B (n + 1) h2 → Q2 (some (.int a)) h2) → AC am_P 7 184 289 [.ref 121, .int y, .int x] h1 Q2) → Q (some (.int a)) h1) : AC am_P 6 154 180 [.ref 8, .int y, .int x] h Q := by
  obtain ⟨T0, u0, T1, u1, K, rf, p, k, v, pl, br, lo, c, ct, pr, pt, cm, bf, bt, T, W, S, u, P, td, TD, hd, Z, nt, tp, pc, cc, hC, hM, hCS, hMS, hb, hst, hAB, hcc⟩ := hJ
  have hMS0 := hMS
  obtain ⟨⟨lv, hMR⟩, hG, hN, hS, hHR, hTD, hSL, hTP, hpc, hKY, hcx⟩ := hMS
  refine (congrArg (fun w9 => AC am_P 6 154 180 [.ref 8, .int y, .int x] w9 Q) hC).mpr ?_
  refine c_X10_often hCS (fun u0' u1' K' hCS' hK => ?_)
  obtain ⟨hC1, hM1, hCS1, hst1, hAB1⟩ := j_cls hM hst hAB (GX.kk hK) hCS'
  refine q _ _ (SK.of hC1 hM1 hst1.2) (fun Q2 q2 => ?_)
  refine (congrArg (fun w9 => AC am_P 7 184 289 [.ref 121, .int y, .int x] w9 Q2) hM1).mpr ?_
  refine c_X11_often hMR hG hTD (fun v pl br lo bf bt => ?_)
  exact q2 _ (j_mdl hC1 hst1 hAB1 hCS1 hMS0 hb (by omega))
theorem j_hold (hJ : J N f A B n h) (hn : n < 1000) {x : Int32} (q : ∀ h1 a, SK N f h1 → (∀ Q2 : Option Value → am_H → Prop, (∀ h2, J N f A B (n + 1) h2 → Q2 (some (.int a)) h2) → AC am_P 1 22 290 [.ref 121, .int x] h1 Q2) → Q (some (.int a)) h1) : AC am_P 1 21 181 [.ref 8, .int x] h Q := by
  obtain ⟨T0, u0, T1, u1, K, rf, p, k, v, pl, br, lo, c, ct, pr, pt, cm, bf, bt, T, W, S, u, P, td, TD, hd, Z, nt, tp, pc, cc, hC, hM, hCS, hMS, hb, hst, hAB, hcc⟩ := hJ
  have hMS0 := hMS
  obtain ⟨⟨lv, hMR⟩, hG, hN, hS, hHR, hTD, hSL, hTP, hpc, hKY, hcx⟩ := hMS
  refine (congrArg (fun w9 => AC am_P 1 21 181 [.ref 8, .int x] w9 Q) hC).mpr ?_
  refine c_X10_hold hCS (fun hk0 => ?_) (fun s K' hs hx hCS' hK => ?_)
  · skip
    obtain ⟨hC1, hM1, hCS1, hst1, hAB1⟩ := j_cls hM hst hAB GX.rf hCS
    refine q _ _ (SK.of hC1 hM1 hst1.2) (fun Q2 q2 => ?_)
    refine (congrArg (fun w9 => AC am_P 1 22 290 [.ref 121, .int x] w9 Q2) hM1).mpr ?_
    refine c_X11_hold hMS0 (fun _ => ?_) (fun s k' hs hx => absurd hk0 (by rw [hx]; exact fun w => w.elim (fun z => z ((nI_leI (by decide) (by omega)).mpr (Nat.zero_le _))) (fun z => z ((nI_leI (by omega) (by decide)).mpr (by omega)))))
    exact q2 _ (j_mdl hC1 hst1 hAB1 hCS1 hMS0 hb (by omega))
  · skip
    obtain ⟨hC1, hM1, hCS1, hst1, hAB1⟩ := j_cls hM hst hAB (GX.kk hK) hCS'
    refine q _ _ (SK.of hC1 hM1 hst1.2) (fun Q2 q2 => ?_)
    refine (congrArg (fun w9 => AC am_P 1 22 290 [.ref 121, .int x] w9 Q2) hM1).mpr ?_
    refine c_X11_hold hMS0 (fun w => absurd w (by rw [hx]; exact fun w => w.elim (fun z => z ((nI_leI (by decide) (by omega)).mpr (Nat.zero_le _))) (fun z => z ((nI_leI (by omega) (by decide)).mpr (by omega))))) (fun s2 k' hs2 hx2 hMS' => ?_)
    have es : s2 = s := (nI_eq (by omega) (by omega)).mp (hx2.symm.trans hx)
    subst es
    exact q2 _ (j_mdl hC1 hst1 hAB1 hCS1 hMS' hb (by omega))
theorem j_restore (hJ : J N f A B n h) (hn : n < 1000) {x : Int32} (q : ∀ h1 a, SK N f h1 → (∀ Q2 : Option Value → am_H → Prop, (∀ h2, J N f A B (n + 1) h2 → Q2 (some (.int a)) h2) → AC am_P 1 22 291 [.ref 121, .int x] h1 Q2) → Q (some (.int a)) h1) : AC am_P 1 21 182 [.ref 8, .int x] h Q := by
  obtain ⟨T0, u0, T1, u1, K, rf, p, k, v, pl, br, lo, c, ct, pr, pt, cm, bf, bt, T, W, S, u, P, td, TD, hd, Z, nt, tp, pc, cc, hC, hM, hCS, hMS, hb, hst, hAB, hcc⟩ := hJ
  have hMS0 := hMS
  obtain ⟨⟨lv, hMR⟩, hG, hN, hS, hHR, hTD, hSL, hTP, hpc, hKY, hcx⟩ := hMS
  refine (congrArg (fun w9 => AC am_P 1 21 182 [.ref 8, .int x] w9 Q) hC).mpr ?_
  refine c_X10_restore hCS (fun hk0 => ?_) (fun s K' hs hx hw hCS' hK => ?_)
  · skip
    obtain ⟨hC1, hM1, hCS1, hst1, hAB1⟩ := j_cls hM hst hAB GX.rf hCS
    refine q _ _ (SK.of hC1 hM1 hst1.2) (fun Q2 q2 => ?_)
    refine (congrArg (fun w9 => AC am_P 1 22 291 [.ref 121, .int x] w9 Q2) hM1).mpr ?_
    refine c_X11_restore hMS0 (fun _ => ?_) (fun s k' hs hx w => absurd (hk0 s hs hx) (by rw [w]; decide))
    exact q2 _ (j_mdl hC1 hst1 hAB1 hCS1 hMS0 hb (by omega))
  · skip
    obtain ⟨hC1, hM1, hCS1, hst1, hAB1⟩ := j_cls hM hst hAB (GX.kk hK) hCS'
    refine q _ _ (SK.of hC1 hM1 hst1.2) (fun Q2 q2 => ?_)
    refine (congrArg (fun w9 => AC am_P 1 22 291 [.ref 121, .int x] w9 Q2) hM1).mpr ?_
    refine c_X11_restore hMS0 (fun w => absurd (w s hs hx) (by rw [hw]; decide)) (fun s2 k' hs2 hx2 hw2 hMS' => ?_)
    have es : s2 = s := (nI_eq (by omega) (by omega)).mp (hx2.symm.trans hx)
    subst es
    exact q2 _ (j_mdl hC1 hst1 hAB1 hCS1 hMS' hb (by omega))
theorem j_count (hJ : J N f A B n h) (hn : n < 1000) {x : Int32} (q : ∀ h1 a, SK N f h1 → (∀ Q2 : Option Value → am_H → Prop, (∀ h2, J N f A B (n + 1) h2 → Q2 (some (.int a)) h2) → AC am_P 1 22 292 [.ref 121, .int x] h1 Q2) → Q (some (.int a)) h1) : AC am_P 2 43 183 [.ref 8, .int x] h Q := by
  obtain ⟨T0, u0, T1, u1, K, rf, p, k, v, pl, br, lo, c, ct, pr, pt, cm, bf, bt, T, W, S, u, P, td, TD, hd, Z, nt, tp, pc, cc, hC, hM, hCS, hMS, hb, hst, hAB, hcc⟩ := hJ
  have hMS0 := hMS
  obtain ⟨⟨lv, hMR⟩, hG, hN, hS, hHR, hTD, hSL, hTP, hpc, hKY, hcx⟩ := hMS
  refine (congrArg (fun w9 => AC am_P 2 43 183 [.ref 8, .int x] w9 Q) hC).mpr ?_
  refine c_X10_count hCS ?_
  obtain ⟨hC1, hM1, hCS1, hst1, hAB1⟩ := j_cls hM hst hAB GX.rf hCS
  refine q _ _ (SK.of hC1 hM1 hst1.2) (fun Q2 q2 => ?_)
  refine (congrArg (fun w9 => AC am_P 1 22 292 [.ref 121, .int x] w9 Q2) hM1).mpr ?_
  refine c_X11_count hMS0 ?_
  exact q2 _ (j_mdl hC1 hst1 hAB1 hCS1 hMS0 hb (by omega))
end J3
