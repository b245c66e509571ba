/-! ===== the law ===== -/
theorem onC.cg {h h' : am_H} {T0 : Sd} {u0 : Ua} {T1 : Sd} {u1 : Ua} {K : Ck} {rf : Nat → Nat} (hC : onC h T0 u0 T1 u1 K rf) (e : ∀ q, q < 121 → h'.2.2 q = h.2.2 q) : onC h' T0 u0 T1 u1 K rf := by
  refine hH_ext rfl rfl (fun q => ?_)
  by_cases h1 : q < 121
  · have e1 : h.2.2 q = (ch h T0 u0 T1 u1 K rf).2.2 q := congrArg (fun z : am_H => z.2.2 q) hC
    rw [e q h1]
    by_cases h8 : q < 8
    · rw [ch_lo h8, e q h1]
    · rw [ch_mi (by omega) h1, cl_cg (e 103 (by decide)), ← ch_mi (by omega) h1]
      exact e1
  · rw [ch_hi (by omega)]
theorem and63 (x : Int32) : ∃ m : Nat, m < 64 ∧ x &&& nI 63 = nI m := by
  refine ⟨(x &&& nI 63).toBitVec.toNat, ?_, ?_⟩
  · rw [Int32.toBitVec_and, BitVec.toNat_and]
    exact Nat.lt_of_le_of_lt Nat.and_le_right (by decide)
  · apply Int32.toBitVec_inj.mp
    apply BitVec.eq_of_toNat_eq
    show _ = (BitVec.ofNat 32 _).toNat
    rw [BitVec.toNat_ofNat, Nat.mod_eq_of_lt (BitVec.isLt _)]
theorem lt_6 : ∀ n, n < 6 → (nI n - nI 6 : Int32) < nI (6 * (n / 6)) := by decide
section L1
variable {N A B n : Nat} {f : Nat → Int32} {h : am_H} {Q : Option Value → am_H → Prop}
set_option maxRecDepth 20000 in
theorem l_lawB (hJ : J N f A B n h) (hN : 6 * n + 6 ≤ N ∧ N ≤ 3072) (ih : ∀ h2, J N f A B (n + 1) h2 → AW am_P 10 256 304 18 [some (.ref 0), some (.ref 8), some (.ref 121), some (.int (nI (6 * (n + 1))))] [] h2 Q) : AW am_P 10 256 304 18 [some (.ref 0), some (.ref 8), some (.ref 121), some (.int (nI (6 * n)))] [] h Q := by
  have hk := hJ.sk
  refine aw rfl rfl ?_
  refine aw rfl rfl ?_
  refine aw_alen rfl hk.1 rfl ?_
  refine aw_c (v := nI 6) rfl (by decide) ?_
  refine aw_subn rfl (by omega) ?_
  refine aw_igtn rfl (fun c => by omega) (fun _ => ?_)
  refine aw rfl rfl ?_
  refine aw rfl rfl ?_
  refine aw_iald rfl hk.1 rfl (by omega) (by omega) ?_
  refine aw_c (v := nI 63) rfl (by decide) ?_
  refine aw rfl rfl ?_
  obtain ⟨mm, hm, em⟩ := and63 (f (6 * n))
  rw [em]
  have hcs : mm = 0 ∨ mm = 1 ∨ mm = 2 ∨ mm = 3 ∨ mm = 4 ∨ mm = 5 ∨ mm = 6 ∨ mm = 7 ∨ mm = 8 ∨ mm = 9 ∨ mm = 10 ∨ mm = 11 ∨ mm = 12 ∨ mm = 13 ∨ mm = 14 ∨ mm = 15 ∨ mm = 16 ∨ mm = 17 ∨ mm = 18 ∨ mm = 19 ∨ mm = 20 ∨ mm = 21 ∨ mm = 22 ∨ mm = 23 ∨ mm = 24 ∨ mm = 25 ∨ mm = 26 ∨ mm = 27 ∨ mm = 28 ∨ mm = 29 ∨ mm = 30 ∨ mm = 31 ∨ mm = 32 ∨ 32 < mm := by omega
  rcases hcs with rfl | rfl | rfl | rfl | rfl | rfl | rfl | rfl | rfl | rfl | rfl | rfl | rfl | rfl | rfl | rfl | rfl | rfl | rfl | rfl | rfl | rfl | rfl | rfl | rfl | rfl | rfl | rfl | rfl | rfl | rfl | rfl | rfl | hcs
  · refine aw_ts (z := 0) (tgt := 180) rfl (by decide) (by decide) ?_
    exact l_law0 hJ hN ih
  · refine aw_ts (z := 1) (tgt := 243) rfl (by decide) (by decide) ?_
    exact l_law1 hJ hN ih
  · refine aw_ts (z := 2) (tgt := 266) rfl (by decide) (by decide) ?_
    exact l_law2 hJ hN ih
  · refine aw_ts (z := 3) (tgt := 279) rfl (by decide) (by decide) ?_
    exact l_law3 hJ hN ih
  · refine aw_ts (z := 4) (tgt := 292) rfl (by decide) (by decide) ?_
    exact l_law4 hJ hN ih
  · refine aw_ts (z := 5) (tgt := 315) rfl (by decide) (by decide) ?_
    exact l_law5 hJ hN ih
  · refine aw_ts (z := 6) (tgt := 348) rfl (by decide) (by decide) ?_
    exact l_law6 hJ hN ih
  · refine aw_ts (z := 7) (tgt := 391) rfl (by decide) (by decide) ?_
    exact l_law7 hJ hN ih
  · refine aw_ts (z := 8) (tgt := 414) rfl (by decide) (by decide) ?_
    exact l_law8 hJ hN ih
  · refine aw_ts (z := 9) (tgt := 427) rfl (by decide) (by decide) ?_
    exact l_law9 hJ hN ih
  · refine aw_ts (z := 10) (tgt := 450) rfl (by decide) (by decide) ?_
    exact l_law10 hJ hN ih
  · refine aw_ts (z := 11) (tgt := 463) rfl (by decide) (by decide) ?_
    exact l_law11 hJ hN ih
  · refine aw_ts (z := 12) (tgt := 506) rfl (by decide) (by decide) ?_
    exact l_law12 hJ hN ih
  · refine aw_ts (z := 13) (tgt := 555) rfl (by decide) (by decide) ?_
    exact l_law13 hJ hN ih
  · refine aw_ts (z := 14) (tgt := 578) rfl (by decide) (by decide) ?_
    exact l_law14 hJ hN ih
  · refine aw_ts (z := 15) (tgt := 601) rfl (by decide) (by decide) ?_
    exact l_law15 hJ hN ih
  · refine aw_ts (z := 16) (tgt := 624) rfl (by decide) (by decide) ?_
    exact l_law16 hJ hN ih
  · refine aw_ts (z := 17) (tgt := 683) rfl (by decide) (by decide) ?_
    exact l_law17 hJ hN ih
  · refine aw_ts (z := 18) (tgt := 762) rfl (by decide) (by decide) ?_
    exact l_law18 hJ hN ih
  · refine aw_ts (z := 19) (tgt := 837) rfl (by decide) (by decide) ?_
    exact l_law19 hJ hN ih
  · refine aw_ts (z := 20) (tgt := 860) rfl (by decide) (by decide) ?_
    exact l_law20 hJ hN ih
  · refine aw_ts (z := 21) (tgt := 883) rfl (by decide) (by decide) ?_
    exact l_law21 hJ hN ih
  · refine aw_ts (z := 22) (tgt := 906) rfl (by decide) (by decide) ?_
    exact l_law22 hJ hN ih
  · refine aw_ts (z := 23) (tgt := 949) rfl (by decide) (by decide) ?_
    exact l_law23 hJ hN ih
  · refine aw_ts (z := 24) (tgt := 972) rfl (by decide) (by decide) ?_
    exact l_law24 hJ hN ih
  · refine aw_ts (z := 25) (tgt := 1021) rfl (by decide) (by decide) ?_
    exact l_law25 hJ hN ih
  · refine aw_ts (z := 26) (tgt := 1034) rfl (by decide) (by decide) ?_
    exact l_law26 hJ hN ih
  · refine aw_ts (z := 27) (tgt := 1067) rfl (by decide) (by decide) ?_
    exact l_law27 hJ hN ih
  · refine aw_ts (z := 28) (tgt := 1080) rfl (by decide) (by decide) ?_
    exact l_law28 hJ hN ih
  · refine aw_ts (z := 29) (tgt := 1113) rfl (by decide) (by decide) ?_
    exact l_law29 hJ hN ih
  · refine aw_ts (z := 30) (tgt := 1146) rfl (by decide) (by decide) ?_
    exact l_law30 hJ hN ih
  · refine aw_ts (z := 31) (tgt := 1169) rfl (by decide) (by decide) ?_
    exact l_law31 hJ hN ih
  · refine aw_ts (z := 32) (tgt := 1192) rfl (by decide) (by decide) ?_
    exact l_law32 hJ hN ih
  · refine aw_ts (tgt := 1215) rfl rfl (am_tg_out (Or.inr (by rw [nI_toInt (by omega)]; omega))) ?_
    exact l_lwQ (hJ.lift (Nat.le_succ n)) hN ih
set_option maxRecDepth 20000 in
theorem l_lawL (hN : N ≤ 3072) (q : ∀ h', h'.1 ≤ A → h'.2.1 ≤ B → Q (some (.int (nI 1))) h') (hJ : J N f A B 0 h) : AW am_P 10 256 304 18 [some (.ref 0), some (.ref 8), some (.ref 121), some (.int (nI 0))] [] h Q := by
  refine aw_loop (α := am_H) (ll := fun n y => [some (.ref 0), some (.ref 8), some (.ref 121), some (.int (nI (6 * n)))]) (hh := fun n y => y) (I := fun n y => J N f A B n y) (N := N / 6) (fun n y hn hI ih => ?_) (fun y hI => ?_) 0 h (Nat.zero_le _) hJ
  · exact l_lawB hI (by omega) ih
  · have hk := hI.sk
    have hrm := hI.rm
    by_cases h6 : N < 6
    · refine aw rfl rfl ?_
      refine aw rfl rfl ?_
      refine aw_alen rfl hk.1 rfl ?_
      refine aw_c (v := nI 6) rfl (by decide) ?_
      refine aw rfl rfl ?_
      refine aw_igt rfl (fun _ => ?_) (fun c => absurd (lt_6 N h6) c)
      refine aw_c (v := nI 1) rfl (by decide) ?_
      exact aw_iret rfl rfl (q y hrm.1 hrm.2)
    · refine aw rfl rfl ?_
      refine aw rfl rfl ?_
      refine aw_alen rfl hk.1 rfl ?_
      refine aw_c (v := nI 6) rfl (by decide) ?_
      refine aw_subn rfl (by omega) ?_
      refine aw_igtn rfl (fun _ => ?_) (fun c => by omega)
      refine aw_c (v := nI 1) rfl (by decide) ?_
      exact aw_iret rfl rfl (q y hrm.1 hrm.2)
end L1
theorem im_27 {N : Nat} {f : Nat → Int32} : ∀ q, 2 ≤ q → q < 8 → am_im N f q = am_im 0 (fun _ => 0) q := by
  intro q h2 h8
  have e : q = 2 ∨ q = 3 ∨ q = 4 ∨ q = 5 ∨ q = 6 ∨ q = 7 := by omega
  rcases e with rfl | rfl | rfl | rfl | rfl | rfl <;> rfl
section L2
variable {N m : Nat} {f : Nat → Int32} {F : Nat → am_C} {Q : Option Value → am_H → Prop}
set_option maxRecDepth 20000 in
theorem c_law (hN : N ≤ 3072) (hF : ∀ p, p < 8 → F p = am_im N f p) (q : ∀ h', h'.1 ≤ 186 → h'.2.1 ≤ m + 86624 → Q (some (.int (nI 1))) h') : AW am_P 10 256 304 0 [some (.ref 0), none, none, none] [] (8, m, F) Q := by
  have e0 : ((8, m, F) : am_H) = bh F m ([] ++ []) := by
    refine hH_ext rfl rfl (fun p => ?_)
    show F p = if p < 8 then F p else F p
    split <;> rfl
  rw [e0]
  refine aw_bnn (l := []) (c := []) (b := 8) (n := 13) (fs := [.null, .int 0, .int 0, .null, .null, .null, .null, .null, .null, .null, .null, .null, .null]) (j := 0) rfl rfl rfl rfl rfl ?_
  refine aw rfl rfl ?_
  refine aw_cs (d1 := 5) (L1 := 107) rfl rfl (by decide) (by decide) (Nat.le_of_ble_eq_true rfl) (c_X10_init (P := fun _ _ => 0) (Z := fun _ _ => 0) (TD := fun _ => 0) (tp := fun _ => 0) (fun h1 T T1 u0 u1 K rf hT hC h11 h12 hF1 hCS hnn => ?_))
  refine aw_ast (ls' := [_, _, _, _]) rfl rfl ?_
  obtain ⟨f1, m1, l, hl, e1, ef, em⟩ : ∃ f1 m1 l, 8 + (l ++ ([] : List am_C)).length = 121 ∧ h1 = bh f1 m1 (l ++ []) ∧ f1 = h1.2.2 ∧ m1 = h1.2.1 := by
    obtain ⟨l, hl, e1⟩ := bh_any h11
    refine ⟨_, _, l, ?_, ?_, rfl, rfl⟩
    · rw [List.append_nil]; exact hl
    · rw [List.append_nil]; exact e1
  have e1f : ∀ p, p < 121 → (bh f1 m1 (l ++ [])).2.2 p = h1.2.2 p := fun p _ => by rw [← e1]
  rw [e1]
  refine aw_bnn (l := l) (c := []) (b := 121) (n := 70) (fs := [.int 0, .null, .int 0, .null, .int 0, .null, .null, .null, .null, .null, .int 0, .int 0, .int 0, .int 0, .int 0, .int 0, .int 0, .int 0, .int 0, .int 0, .int 0, .null, .null, .null, .null, .null, .null, .null, .null, .null, .null, .null, .null, .null, .null, .null, .null, .null, .null, .int 0, .null, .null, .null, .null, .null, .int 0, .null, .null, .null, .int 0, .null, .null, .int 0, .null, .null, .int 0, .null, .null, .int 0, .null, .null, .null, .null, .int 0, .null, .null, .null, .null, .null, .null]) (j := 0) rfl (by rw [List.append_nil] at hl; exact hl) rfl rfl rfl ?_
  refine aw rfl rfl ?_
  refine aw_cs (d1 := 2) (L1 := 48) rfl rfl (by decide) (by decide) (Nat.le_of_ble_eq_true rfl) (c_X11_init (P := fun _ _ => 0) (Z := fun _ _ => 0) (TD := fun _ => 0) (tp := fun _ => 0) hl (fun k m' hm' hMS => ?_))
  refine aw_ast (ls' := [_, _, _, _]) rfl rfl ?_
  refine aw_c (v := nI 0) rfl (by decide) ?_
  refine aw_ist (ls' := [_, _, _, _]) rfl rfl ?_
  have hlen : (l ++ ([] : List am_C)).length = 113 := by omega
  have eb : ∀ p, p < 121 → (bh f1 m' (l ++ [] ++ i_m)).2.2 p = h1.2.2 p := fun p hp => by
    rw [← e1f p hp]
    show (if p < 8 then f1 p else am_nth (l ++ [] ++ i_m) (p - 8) (f1 p)) = if p < 8 then f1 p else am_nth (l ++ []) (p - 8) (f1 p)
    by_cases h8 : p < 8
    · rw [if_pos h8, if_pos h8]
    · rw [if_neg h8, if_neg h8]
      exact am_nth_a1 _ _ _ _ (by omega)
  have e171 : (bh f1 m' (l ++ [] ++ i_m)).1 = 171 := by
    show 8 + (l ++ [] ++ i_m).length = 171
    rw [List.length_append, hlen]
    rfl
  have hm1 : m1 = m + 13 + 18112 := em.trans h12
  refine l_lawL (f := f) (A := 186) (B := m + 86624) hN q ?_
  have hp8 : ∀ p, p < 8 → (bh f1 m' (l ++ [] ++ i_m)).2.2 p = am_im N f p := fun p hp => by rw [eb p (by omega), hF1 p (Or.inl hp), hF p hp]
  have e2 : (bh f1 m' (l ++ [] ++ i_m)).2.1 = m' := rfl
  have hJ0 : ∀ g : am_H, (∀ p, p < 121 → g.2.2 p = h1.2.2 p) → g.1 = 171 → (∀ p, p < 8 → g.2.2 p = am_im N f p) → g.2.1 = m' → J N f 186 (m + 86624) 0 (mh g k (fun _ => 0) (fun _ => 0) 0 0 (fun _ => 0) (fun _ => 0) (fun _ => 0) (fun _ => 0) (fun _ => 0) (fun _ => 0) (fun _ => 0)) := by
    intro g hb h171 hp hg
    have hm6 : am_six (mh g k (fun _ => 0) (fun _ => 0) 0 0 (fun _ => 0) (fun _ => 0) (fun _ => 0) (fun _ => 0) (fun _ => 0) (fun _ => 0) (fun _ => 0)) := (mh_lo (by decide)).trans (hp 1 (by decide))
    refine ⟨T, u0, T1, u1, K, rf, 10, k, (fun _ => 0), (fun _ => 0), 0, 0, (fun _ => 0), (fun _ => 0), (fun _ => 0), (fun _ => 0), (fun _ => 0), (fun _ => 0), (fun _ => 0), T, fun _ => [], bgS T, 0, fun _ _ => 0, 0, fun _ => 0, fun _ => false, fun _ _ => 0, 0, fun _ => 0, -1, 0, (hC.cg hb).mh, onM_mh, hCS _ (Nat.le_of_eq h171.symm) hm6 ((mh_lo (by decide)).trans (hb 103 (by decide))), hMS T hT, fun j hj => absurd hj (Nat.not_lt_zero j), ⟨fun p h2 h8 => ?_, (mh_lo (by decide)).trans (hp 0 (by decide))⟩, ⟨?_, ?_⟩, Nat.le_refl 0⟩
    · rw [mh_lo (by omega), hp p h8]
      exact im_27 p h2 h8
    · show g.1 + nn K.2.2.2.2 = 186
      rw [hnn, h171]
    · show g.2.1 + 2400 * nn K.2.2.2.2 = _
      rw [hnn, hg]
      omega
  exact hJ0 _ eb e171 hp8 e2
end L2
