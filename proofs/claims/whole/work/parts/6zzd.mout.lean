/-! ===== the reference's reader: tellOutcome ===== -/
def KO (w : Nat) (k k' : Mk) : Prop := (∀ n, ¬ (n = 11 ∨ (13 ≤ n ∧ n ≤ 16)) → k'.1 n = k.1 n) ∧ (∀ n, n < 28 ∨ 31 < n → k'.2.1 n = k.2.1 n) ∧ (∀ n i, 28 ≤ n → n ≤ 31 → ¬ i = w → k'.2.1 n i = k.2.1 n i) ∧ k'.2.2 = k.2.2
theorem KM.ko {w : Nat} {k k' : Mk} (h : KM k k') : KO w k k' := ⟨h.1, fun n _ => by rw [h.2], fun n i _ _ _ => by rw [h.2], by rw [h.2]⟩
theorem KO.tr {w : Nat} {k k1 k2 : Mk} (h : KO w k k1) (h1 : KO w k1 k2) : KO w k k2 := ⟨fun n hn => (h1.1 n hn).trans (h.1 n hn), fun n hn => (h1.2.1 n hn).trans (h.2.1 n hn), fun n i a b c => (h1.2.2.1 n i a b c).trans (h.2.2.1 n i a b c), h1.2.2.2.trans h.2.2.2⟩
theorem KO.u {w j : Nat} {x : Int32} {k : Mk} (hj : 28 ≤ j ∧ j ≤ 31) : KO w k (k.1, va_up k.2.1 j (upd (k.2.1 j) w x), k.2.2) := by
  refine ⟨fun _ _ => rfl, fun n hn => vu_ot (by omega), fun n i _ _ hi => ?_, rfl⟩
  show va_up k.2.1 j _ n i = _
  by_cases e : n = j
  · subst e; rw [vu_at, upd_ne hi]
  · rw [vu_ot e]
theorem KO.kp {w : Nat} {k k' : Mk} (h : KO w k k') : KP k k' := ⟨fun n hn => h.1 n (by omega), fun n hn => h.2.1 n (by omega), fun n _ => by rw [h.2.2.2]⟩
theorem RM.ko {Y : Tk} {k : Mk} {s : Ps} {w j : Nat} {x : Int32} (h : RM Y k s) (hj : 28 ≤ j ∧ j ≤ 31) : RM Y (k.1, va_up k.2.1 j (upd (k.2.1 j) w x), k.2.2) s := h.kp (KO.u hj).kp rfl (fun _ _ _ => rfl)
section C1
variable {g : am_H} {k : Mk} {v pl : Nat → Int32} {br lo : Int32} {c ct pr pt cm bf bt : Nat → Int32}
variable {Y : Tk} {s : Ps}
theorem c_mbd {Q : Option Value → am_H → Prop} {s' : Ps} {l9 h9 : Nat} (hR : RM Y k s) (h : iS Y l9 h9 s = s') (hl : l9 ≤ 9999) (hh : h9 ≤ 9999) (q : ∀ k' x, RM Y k' s' → KM k k' → (s'.2.1.1 = 0 → x = nI (iV Y l9 s)) → Q (some (.int x)) (mh g k' v pl br lo c ct pr pt cm bf bt)) : AC am_P 2 41 209 [.ref 121, .int (nI l9), .int (nI h9)] (mh g k v pl br lo c ct pr pt cm bf bt) Q := by
  subst h
  exact c_X11_bounded hR hl hh q
theorem c_X11_tellOutcome {Q : Option Value → am_H → Prop} {w : Nat} (hw : w < 48) (hR : RM Y k s) (q : ∀ k', RM Y k' (otc Y s).2 → KO w k k' → ((otc Y s).2.2.1.1 = 0 → k'.2.1 28 w = nI (otc Y s).1.1 ∧ k'.2.1 29 w = nI (otc Y s).1.2.1 ∧ k'.2.1 30 w = (bif (otc Y s).1.2.2.1 then - nI (otc Y s).1.2.2.2.1 else nI (otc Y s).1.2.2.2.1) ∧ k'.2.1 31 w = nI (otc Y s).1.2.2.2.2) → Q none (mh g k' v pl br lo c ct pr pt cm bf bt)) : AC am_P 3 64 211 [.ref 121, .int (nI w)] (mh g k v pl br lo c ct pr pt cm bf bt) Q := by
  refine AC.of (ls := [_, _, _, _]) rfl ?_
  obtain ⟨s1, hi1⟩ : ∃ p, iS Y 1 6 s = p := ⟨_, rfl⟩
  obtain ⟨s2, hm2⟩ : ∃ p, mu Y 23 s1 = p := ⟨_, rfl⟩
  obtain ⟨s3, hi3⟩ : ∃ p, iS Y 0 4 s2 = p := ⟨_, rfl⟩
  refine aw rfl rfl ?_
  refine aw_getf rfl mg_121 rfl ?_
  refine aw rfl rfl ?_
  refine aw rfl rfl ?_
  refine aw_c (v := nI 1) rfl (by decide) ?_
  refine aw_c (v := nI 6) rfl (by decide) ?_
  refine aw_cv (d1 := 2) (L1 := 41) rfl rfl mg_121 rfl rfl (by decide) (by decide) (Nat.le_of_ble_eq_true rfl) (c_mbd hR hi1 (by decide) (by decide) (fun k1 x1 hR1 hk1 hx1 => ?_))
  refine aw_iastU rfl mg_136 rfl (by omega) (by decide) (by decide) mu_136 ?_
  refine aw rfl rfl ?_
  refine aw_c (v := nI 23) rfl (by decide) ?_
  refine aw_cv (d1 := 2) (L1 := 41) rfl rfl mg_121 rfl rfl (by decide) (by decide) (Nat.le_of_ble_eq_true rfl) (c_mmu (hR1.ko (by decide)) hm2 (by decide) (fun k2 hR2 hk2 => ?_))
  refine aw rfl rfl ?_
  refine aw_getf rfl mg_121 rfl ?_
  refine aw rfl rfl ?_
  refine aw rfl rfl ?_
  refine aw_c (v := nI 0) rfl (by decide) ?_
  refine aw_c (v := nI 4) rfl (by decide) ?_
  refine aw_cv (d1 := 2) (L1 := 41) rfl rfl mg_121 rfl rfl (by decide) (by decide) (Nat.le_of_ble_eq_true rfl) (c_mbd hR2 hi3 (by decide) (by decide) (fun k3 x3 hR3 hk3 hx3 => ?_))
  refine aw_iastU rfl mg_137 rfl (by omega) (by decide) (by decide) mu_137 ?_
  refine aw rfl rfl ?_
  refine aw_c (v := nI 9) rfl (by decide) ?_
  refine aw_cv (d1 := 0) (L1 := 0) rfl rfl mg_121 rfl rfl (by decide) (by decide) (Nat.le_of_ble_eq_true rfl) (c_X11_is (hR3.ko (by decide)) (by decide) (fun hf3 hb1 => ?_) (fun hb => ?_))
  · have hb : s3.2.1.1 = 0 → Y.1 s3.1 = 9 := fun _ => hb1
    have e4 := bf_1 hb
    have hbt : s3.2.1.1 = 0 → decide (s3.2.1.1 = 0 ∧ Y.1 s3.1 = 9) = true := fun hf => decide_eq_true ⟨hf, hb hf⟩
    obtain ⟨s4, hg4⟩ : ∃ p, go Y s3 = p := ⟨_, rfl⟩
    rw [hg4] at e4
    obtain ⟨s5, hi5⟩ : ∃ p, iS Y 0 2 s4 = p := ⟨_, rfl⟩
    refine aw_ist (ls' := [_, _, _, _]) rfl rfl ?_
    refine aw rfl rfl ?_
    refine aw_eq rfl (fun c => absurd c (by decide)) (fun _ => ?_)
    refine aw rfl rfl ?_
    refine aw_cv (d1 := 1) (L1 := 21) rfl rfl mg_121 rfl rfl (by decide) (by decide) (Nat.le_of_ble_eq_true rfl) (c_mgo (hR3.ko (by decide)) hg4 (fun _ => by omega) (fun k4 hR4 hk4 => ?_))
    refine aw rfl rfl ?_
    refine aw_c (v := nI 0) rfl (by decide) ?_
    refine aw_c (v := nI 2) rfl (by decide) ?_
    refine aw_cv (d1 := 2) (L1 := 41) rfl rfl mg_121 rfl rfl (by decide) (by decide) (Nat.le_of_ble_eq_true rfl) (c_mbd hR4 hi5 (by decide) (by decide) (fun k5 x5 hR5 hk5 hx5 => ?_))
    refine aw_ist (ls' := [_, _, _, _]) rfl rfl ?_
    refine aw rfl rfl ?_
    refine aw_getf rfl mg_121 rfl ?_
    refine aw rfl rfl ?_
    refine aw rfl rfl ?_
    refine aw_eq rfl (fun c => absurd c (by decide)) (fun _ => ?_)
    refine aw rfl rfl ?_
    refine aw rfl rfl ?_
    refine aw rfl rfl ?_
    refine aw_iastU rfl mg_138 rfl (by omega) (by decide) (by decide) mu_138 ?_
    refine aw rfl rfl ?_
    refine aw_getf rfl mg_121 rfl ?_
    refine aw rfl rfl ?_
    refine aw_c (v := nI 0) rfl (by decide) ?_
    refine aw_iastU rfl mg_139 rfl (by omega) (by decide) (by decide) mu_139 ?_
    have hf85 := hR5.2.2.1
    refine aw rfl rfl ?_
    refine aw_getfE rfl mg_121 rfl (congrArg Value.int hR5.2.2.2.1) ?_
    refine aw_gtn rfl (fun c80 => ?_) (fun c80 => ?_)
    · have htf : decide (s5.2.1.1 = 0 ∧ Y.1 s5.1 = 24) = false := decide_eq_false (fun w9 => by omega)
      have hO : (otc Y s).2 = s5 := by
        simp only [otc, hi1, hm2, hi3, hg4, e4, hi5, htf, cond_false]
      refine aw_vret rfl rfl (q _ (by rw [hO]; exact (hR5.ko (by decide) |>.ko (by decide))) (((((((((KM.ko hk1).tr (KO.u (j := 28) (by decide))).tr (KM.ko hk2)).tr (KM.ko hk3)).tr (KO.u (j := 29) (by decide))).tr (KM.ko hk4)).tr (KM.ko hk5)).tr (KO.u (j := 30) (by decide))).tr (KO.u (j := 31) (by decide))) (fun hg => ?_))
      rw [hO] at hg
      omega
    · refine aw rfl rfl ?_
      refine aw_c (v := nI 24) rfl (by decide) ?_
      refine aw_cv (d1 := 0) (L1 := 0) rfl rfl mg_121 rfl rfl (by decide) (by decide) (Nat.le_of_ble_eq_true rfl) (c_X11_is (hR5.ko (by decide) |>.ko (by decide)) (by decide) (fun htf5 ht => ?_) (fun ht => ?_))
      · have hf5 := htf5
        obtain ⟨s6, hg6⟩ : ∃ p, go Y s5 = p := ⟨_, rfl⟩
        obtain ⟨s7, hi7⟩ : ∃ p, iS Y 0 2 s6 = p := ⟨_, rfl⟩
        refine aw_ne rfl (fun _ => ?_) (fun c => absurd c (by decide))
        refine aw rfl rfl ?_
        refine aw_cv (d1 := 1) (L1 := 21) rfl rfl mg_121 rfl rfl (by decide) (by decide) (Nat.le_of_ble_eq_true rfl) (c_mgo (hR5.ko (by decide) |>.ko (by decide)) hg6 (fun _ => by omega) (fun k6 hR6 hk6 => ?_))
        refine aw rfl rfl ?_
        refine aw_getf rfl mg_121 rfl ?_
        refine aw rfl rfl ?_
        refine aw rfl rfl ?_
        refine aw_c (v := nI 0) rfl (by decide) ?_
        refine aw_c (v := nI 2) rfl (by decide) ?_
        refine aw_cv (d1 := 2) (L1 := 41) rfl rfl mg_121 rfl rfl (by decide) (by decide) (Nat.le_of_ble_eq_true rfl) (c_mbd hR6 hi7 (by decide) (by decide) (fun k7 x7 hR7 hk7 hx7 => ?_))
        refine aw_iastU rfl mg_139 rfl (by omega) (by decide) (by decide) mu_139 ?_
        have hO : (otc Y s).2 = s7 := by
          simp only [otc, hi1, hm2, hi3, hg4, e4, hi5, hg6, decide_eq_true (show s5.2.1.1 = 0 ∧ Y.1 s5.1 = 24 from ⟨hf5, ht⟩), cond_true, hi7]
        refine aw_vret rfl rfl (q _ (by rw [hO]; exact (hR7.ko (by decide))) ((((((((((((KM.ko hk1).tr (KO.u (j := 28) (by decide))).tr (KM.ko hk2)).tr (KM.ko hk3)).tr (KO.u (j := 29) (by decide))).tr (KM.ko hk4)).tr (KM.ko hk5)).tr (KO.u (j := 30) (by decide))).tr (KO.u (j := 31) (by decide))).tr (KM.ko hk6)).tr (KM.ko hk7)).tr (KO.u (j := 31) (by decide))) (fun hg => ?_))
        rw [hO] at hg
        have i7 := iS_E hi7 hg
        have i5 := iS_E hi5 hf5
        have g4 := go_E hg4 i5.1
        have hf3 := g4.1
        have i3 := iS_E hi3 hf3
        have m2 := mu_E hm2 i3.1
        have y1 := hx1 m2.1
        have y3 := hx3 hf3
        have y5 := hx5 hf5
        have y7 := hx7 hg
        simp only [otc, hi1, hm2, hi3, hbt hf3, cond_true, hg4, hi5, decide_eq_true (show s5.2.1.1 = 0 ∧ Y.1 s5.1 = 24 from ⟨hf5, ht⟩), cond_true, hg6]
        have v28 : k5.2.1 28 w = x1 := by
          rw [hk5.2, hk4.2]
          show k3.2.1 28 w = _
          rw [hk3.2, hk2.2]
          exact upd_at
        have v29 : k5.2.1 29 w = x3 := by
          rw [hk5.2, hk4.2]
          exact upd_at
        have v7 : ∀ n, ¬ n = 30 → ¬ n = 31 → k7.2.1 n = k5.2.1 n := fun n n0 n1 => by
          rw [hk7.2, hk6.2]
          show (va_up (va_up k5.2.1 30 (upd (k5.2.1 30) w (-x5))) 31 (upd (k5.2.1 31) w (nI 0))) n = _
          rw [vu_ot n1, vu_ot n0]
        have v730 : k7.2.1 30 w = -x5 := by
          rw [hk7.2, hk6.2]
          exact upd_at
        refine ⟨?_, ?_, ?_, ?_⟩
        · show k7.2.1 28 w = _
          rw [v7 28 (by decide) (by decide), v28, y1]
        · show k7.2.1 29 w = _
          rw [v7 29 (by decide) (by decide), v29, y3]
        · show k7.2.1 30 w = _
          rw [v730, y5]
        · show upd (k7.2.1 31) w x7 w = _
          rw [upd_at, y7]
      · refine aw_ne rfl (fun c => absurd (by decide) c) (fun _ => ?_)
        have htf : decide (s5.2.1.1 = 0 ∧ Y.1 s5.1 = 24) = false := decide_eq_false (fun w9 => ht w9.1 w9.2)
        have hO : (otc Y s).2 = s5 := by
          simp only [otc, hi1, hm2, hi3, hg4, e4, hi5, htf, cond_false]
        refine aw_vret rfl rfl (q _ (by rw [hO]; exact (hR5.ko (by decide) |>.ko (by decide))) (((((((((KM.ko hk1).tr (KO.u (j := 28) (by decide))).tr (KM.ko hk2)).tr (KM.ko hk3)).tr (KO.u (j := 29) (by decide))).tr (KM.ko hk4)).tr (KM.ko hk5)).tr (KO.u (j := 30) (by decide))).tr (KO.u (j := 31) (by decide))) (fun hg => ?_))
        rw [hO] at hg
        have hf5 := hg
        have i5 := iS_E hi5 hf5
        have g4 := go_E hg4 i5.1
        have hf3 := g4.1
        have i3 := iS_E hi3 hf3
        have m2 := mu_E hm2 i3.1
        have y1 := hx1 m2.1
        have y3 := hx3 hf3
        have y5 := hx5 hf5
        simp only [otc, hi1, hm2, hi3, hbt hf3, cond_true, hg4, hi5, htf, cond_false]
        have v28 : k5.2.1 28 w = x1 := by
          rw [hk5.2, hk4.2]
          show k3.2.1 28 w = _
          rw [hk3.2, hk2.2]
          exact upd_at
        have v29 : k5.2.1 29 w = x3 := by
          rw [hk5.2, hk4.2]
          exact upd_at
        refine ⟨?_, ?_, ?_, ?_⟩
        · show k5.2.1 28 w = _
          rw [v28, y1]
        · show k5.2.1 29 w = _
          rw [v29, y3]
        · show upd (k5.2.1 30) w (-x5) w = _
          rw [upd_at, y5]
        · exact upd_at
  · have hbf := bf_0 hb
    obtain ⟨s5, hi5⟩ : ∃ p, iS Y 0 2 s3 = p := ⟨_, rfl⟩
    refine aw_ist (ls' := [_, _, _, _]) rfl rfl ?_
    refine aw rfl rfl ?_
    refine aw_eq rfl (fun _ => ?_) (fun c => absurd (by decide) c)
    refine aw rfl rfl ?_
    refine aw_c (v := nI 0) rfl (by decide) ?_
    refine aw_c (v := nI 2) rfl (by decide) ?_
    refine aw_cv (d1 := 2) (L1 := 41) rfl rfl mg_121 rfl rfl (by decide) (by decide) (Nat.le_of_ble_eq_true rfl) (c_mbd (hR3.ko (by decide)) hi5 (by decide) (by decide) (fun k5 x5 hR5 hk5 hx5 => ?_))
    refine aw_ist (ls' := [_, _, _, _]) rfl rfl ?_
    refine aw rfl rfl ?_
    refine aw_getf rfl mg_121 rfl ?_
    refine aw rfl rfl ?_
    refine aw rfl rfl ?_
    refine aw_eq rfl (fun _ => ?_) (fun c => absurd (by decide) c)
    refine aw rfl rfl ?_
    refine aw_iastU rfl mg_138 rfl (by omega) (by decide) (by decide) mu_138 ?_
    refine aw rfl rfl ?_
    refine aw_getf rfl mg_121 rfl ?_
    refine aw rfl rfl ?_
    refine aw_c (v := nI 0) rfl (by decide) ?_
    refine aw_iastU rfl mg_139 rfl (by omega) (by decide) (by decide) mu_139 ?_
    have hf85 := hR5.2.2.1
    refine aw rfl rfl ?_
    refine aw_getfE rfl mg_121 rfl (congrArg Value.int hR5.2.2.2.1) ?_
    refine aw_gtn rfl (fun c80 => ?_) (fun c80 => ?_)
    · have htf : decide (s5.2.1.1 = 0 ∧ Y.1 s5.1 = 24) = false := decide_eq_false (fun w9 => by omega)
      have hO : (otc Y s).2 = s5 := by
        simp only [otc, hi1, hm2, hi3, hbf, cond_false, hi5, htf, cond_false]
      refine aw_vret rfl rfl (q _ (by rw [hO]; exact (hR5.ko (by decide) |>.ko (by decide))) ((((((((KM.ko hk1).tr (KO.u (j := 28) (by decide))).tr (KM.ko hk2)).tr (KM.ko hk3)).tr (KO.u (j := 29) (by decide))).tr (KM.ko hk5)).tr (KO.u (j := 30) (by decide))).tr (KO.u (j := 31) (by decide))) (fun hg => ?_))
      rw [hO] at hg
      omega
    · refine aw rfl rfl ?_
      refine aw_c (v := nI 24) rfl (by decide) ?_
      refine aw_cv (d1 := 0) (L1 := 0) rfl rfl mg_121 rfl rfl (by decide) (by decide) (Nat.le_of_ble_eq_true rfl) (c_X11_is (hR5.ko (by decide) |>.ko (by decide)) (by decide) (fun htf5 ht => ?_) (fun ht => ?_))
      · have hf5 := htf5
        obtain ⟨s6, hg6⟩ : ∃ p, go Y s5 = p := ⟨_, rfl⟩
        obtain ⟨s7, hi7⟩ : ∃ p, iS Y 0 2 s6 = p := ⟨_, rfl⟩
        refine aw_ne rfl (fun _ => ?_) (fun c => absurd c (by decide))
        refine aw rfl rfl ?_
        refine aw_cv (d1 := 1) (L1 := 21) rfl rfl mg_121 rfl rfl (by decide) (by decide) (Nat.le_of_ble_eq_true rfl) (c_mgo (hR5.ko (by decide) |>.ko (by decide)) hg6 (fun _ => by omega) (fun k6 hR6 hk6 => ?_))
        refine aw rfl rfl ?_
        refine aw_getf rfl mg_121 rfl ?_
        refine aw rfl rfl ?_
        refine aw rfl rfl ?_
        refine aw_c (v := nI 0) rfl (by decide) ?_
        refine aw_c (v := nI 2) rfl (by decide) ?_
        refine aw_cv (d1 := 2) (L1 := 41) rfl rfl mg_121 rfl rfl (by decide) (by decide) (Nat.le_of_ble_eq_true rfl) (c_mbd hR6 hi7 (by decide) (by decide) (fun k7 x7 hR7 hk7 hx7 => ?_))
        refine aw_iastU rfl mg_139 rfl (by omega) (by decide) (by decide) mu_139 ?_
        have hO : (otc Y s).2 = s7 := by
          simp only [otc, hi1, hm2, hi3, hbf, cond_false, hi5, hg6, decide_eq_true (show s5.2.1.1 = 0 ∧ Y.1 s5.1 = 24 from ⟨hf5, ht⟩), cond_true, hi7]
        refine aw_vret rfl rfl (q _ (by rw [hO]; exact (hR7.ko (by decide))) (((((((((((KM.ko hk1).tr (KO.u (j := 28) (by decide))).tr (KM.ko hk2)).tr (KM.ko hk3)).tr (KO.u (j := 29) (by decide))).tr (KM.ko hk5)).tr (KO.u (j := 30) (by decide))).tr (KO.u (j := 31) (by decide))).tr (KM.ko hk6)).tr (KM.ko hk7)).tr (KO.u (j := 31) (by decide))) (fun hg => ?_))
        rw [hO] at hg
        have i7 := iS_E hi7 hg
        have i5 := iS_E hi5 hf5
        have hf3 := i5.1
        have i3 := iS_E hi3 hf3
        have m2 := mu_E hm2 i3.1
        have y1 := hx1 m2.1
        have y3 := hx3 hf3
        have y5 := hx5 hf5
        have y7 := hx7 hg
        simp only [otc, hi1, hm2, hi3, hbf, cond_false, hi5, decide_eq_true (show s5.2.1.1 = 0 ∧ Y.1 s5.1 = 24 from ⟨hf5, ht⟩), cond_true, hg6]
        have v28 : k5.2.1 28 w = x1 := by
          rw [hk5.2]
          show k3.2.1 28 w = _
          rw [hk3.2, hk2.2]
          exact upd_at
        have v29 : k5.2.1 29 w = x3 := by
          rw [hk5.2]
          exact upd_at
        have v7 : ∀ n, ¬ n = 30 → ¬ n = 31 → k7.2.1 n = k5.2.1 n := fun n n0 n1 => by
          rw [hk7.2, hk6.2]
          show (va_up (va_up k5.2.1 30 (upd (k5.2.1 30) w x5)) 31 (upd (k5.2.1 31) w (nI 0))) n = _
          rw [vu_ot n1, vu_ot n0]
        have v730 : k7.2.1 30 w = x5 := by
          rw [hk7.2, hk6.2]
          exact upd_at
        refine ⟨?_, ?_, ?_, ?_⟩
        · show k7.2.1 28 w = _
          rw [v7 28 (by decide) (by decide), v28, y1]
        · show k7.2.1 29 w = _
          rw [v7 29 (by decide) (by decide), v29, y3]
        · show k7.2.1 30 w = _
          rw [v730, y5]
        · show upd (k7.2.1 31) w x7 w = _
          rw [upd_at, y7]
      · refine aw_ne rfl (fun c => absurd (by decide) c) (fun _ => ?_)
        have htf : decide (s5.2.1.1 = 0 ∧ Y.1 s5.1 = 24) = false := decide_eq_false (fun w9 => ht w9.1 w9.2)
        have hO : (otc Y s).2 = s5 := by
          simp only [otc, hi1, hm2, hi3, hbf, cond_false, hi5, htf, cond_false]
        refine aw_vret rfl rfl (q _ (by rw [hO]; exact (hR5.ko (by decide) |>.ko (by decide))) ((((((((KM.ko hk1).tr (KO.u (j := 28) (by decide))).tr (KM.ko hk2)).tr (KM.ko hk3)).tr (KO.u (j := 29) (by decide))).tr (KM.ko hk5)).tr (KO.u (j := 30) (by decide))).tr (KO.u (j := 31) (by decide))) (fun hg => ?_))
        rw [hO] at hg
        have hf5 := hg
        have i5 := iS_E hi5 hf5
        have hf3 := i5.1
        have i3 := iS_E hi3 hf3
        have m2 := mu_E hm2 i3.1
        have y1 := hx1 m2.1
        have y3 := hx3 hf3
        have y5 := hx5 hf5
        simp only [otc, hi1, hm2, hi3, hbf, cond_false, hi5, htf, cond_false]
        have v28 : k5.2.1 28 w = x1 := by
          rw [hk5.2]
          show k3.2.1 28 w = _
          rw [hk3.2, hk2.2]
          exact upd_at
        have v29 : k5.2.1 29 w = x3 := by
          rw [hk5.2]
          exact upd_at
        refine ⟨?_, ?_, ?_, ?_⟩
        · show k5.2.1 28 w = _
          rw [v28, y1]
        · show k5.2.1 29 w = _
          rw [v29, y3]
        · show upd (k5.2.1 30) w x5 w = _
          rw [upd_at, y5]
        · exact upd_at
end C1
