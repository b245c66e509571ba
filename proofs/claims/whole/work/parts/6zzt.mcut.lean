/-! ===== the reference cuts a text ===== -/
def tkW (x : Nat → Int32) (n : Nat) (k : Mk) (j : Nat) : Prop := k.2.1 5 j = nI (lK x n (ps9 x n j)) ∧ k.2.1 6 j = nI (ps9 x n j) ∧ (lK x n (ps9 x n j) = 2 → k.2.1 7 j = nI (lV x n (ps9 x n j))) ∧ (lK x n (ps9 x n j) = 1 → k.2.2 8 j = n27 (lL x n (ps9 x n j)))
def CUI (x : Nat → Int32) (n : Nat) (k : Mk) (t : Nat) : Prop := k.1 10 = nI t ∧ t ≤ 401 ∧ ∀ j, j < t → tkW x n k j
/-- what cutting leaves -/
def KCu (k k' : Mk) : Prop := (∀ n, ¬ n = 10 → k'.1 n = k.1 n) ∧ (∀ n, n < 5 ∨ 7 < n → k'.2.1 n = k.2.1 n) ∧ (∀ n, ¬ n = 8 → k'.2.2 n = k.2.2 n)
theorem KCu.rf {k : Mk} : KCu k k := ⟨fun _ _ => rfl, fun _ _ => rfl, fun _ _ => rfl⟩
theorem KCu.tr {k k1 k2 : Mk} (h : KCu k k1) (h1 : KCu k1 k2) : KCu k k2 := ⟨fun n hn => (h1.1 n hn).trans (h.1 n hn), fun n hn => (h1.2.1 n hn).trans (h.2.1 n hn), fun n hn => (h1.2.2 n hn).trans (h.2.2 n hn)⟩
theorem KCu.tu {k : Mk} {t : Nat} {a b d : Int32} {m : Int64} : KCu k (tkU k t a b d m) := ⟨fun n hn => vu_ot hn, fun n hn => by
  show va_up (va_up (va_up k.2.1 5 _) 6 _) 7 _ n = _
  rw [vu_ot (by omega), vu_ot (by omega), vu_ot (by omega)], fun n hn => vu_ot hn⟩
section B1
variable {x : Nat → Int32} {n i t : Nat} {k : Mk}
theorem tkU_5 {a b d : Int32} {m : Int64} : (tkU k t a b d m).2.1 5 = upd (k.2.1 5) t a := rfl
theorem tkU_6 {a b d : Int32} {m : Int64} : (tkU k t a b d m).2.1 6 = upd (k.2.1 6) t b := rfl
theorem tkU_7 {a b d : Int32} {m : Int64} : (tkU k t a b d m).2.1 7 = upd (k.2.1 7) t d := rfl
theorem tkU_8 {a b d : Int32} {m : Int64} : (tkU k t a b d m).2.2 8 = vp_updL (k.2.2 8) t m := rfl
theorem CUI.s {a d : Int32} {m : Int64} (h : CUI x n k t) (ht : t ≤ 400) (hp : ps9 x n t = i) (ha : a = nI (lK x n i)) (hd : lK x n i = 2 → d = nI (lV x n i)) (hm : lK x n i = 1 → m = n27 (lL x n i)) : CUI x n (tkU k t a (nI i) d m) (t + 1) := by
  obtain ⟨h1, h2, h3⟩ := h
  refine ⟨rfl, by omega, fun j hj => ?_⟩
  unfold tkW
  rw [tkU_5, tkU_6, tkU_7, tkU_8]
  by_cases e : j = t
  · subst e
    rw [hp, upd_at, upd_at, upd_at]
    refine ⟨ha, rfl, hd, fun w => ?_⟩
    rw [← hm w]
    unfold vp_updL
    exact if_pos rfl
  · rw [upd_ne e, upd_ne e, upd_ne e]
    obtain ⟨g1, g2, g3, g4⟩ := h3 j (by omega)
    refine ⟨g1, g2, g3, fun w => ?_⟩
    rw [← g4 w]
    unfold vp_updL
    exact if_neg e
theorem tk_nm : YNm (tkS x n) := by
  intro i _ _ h
  have h : lK x n (ps9 x n i) = 1 := h
  obtain ⟨h1, h2, h3, h4, h5⟩ := lL_1 h
  refine ⟨?_, h4⟩
  show ltO (lL x n (ps9 x n i))
  rw [h5]
  exact ltL_ok _ _ (fun j hj => (run_in (P := ltB) (n := n) (i := ps9 x n i) (Nat.le_add_right _ j) (by omega)).1)
end B1
section C1
variable {g : am_H} {k : Mk} {v pl : Nat → Int32} {br lo : Int32} {c ct pr pt cm bf bt : Nat → Int32}
variable {Y : Tk} {s : Ps}
variable {n : Nat} {x : Nat → Int32}
set_option maxRecDepth 4000 in
theorem c_X11_cut {Q : Option Value → am_H → Prop} (h4 : k.1 4 = nI n) (hx : k.2.1 3 = x) (hn : n ≤ 2000) (hb : ∀ j, j < n → b8 (x j)) (hK : KY k) (q : ∀ k', TKM (tkS x n) k' → KCu k k' → Q none (mh g k' v pl br lo c ct pr pt cm bf bt)) : AC am_P 2 49 195 [.ref 121] (mh g k v pl br lo c ct pr pt cm bf bt) Q := by
  refine AC.of (ls := [_, _, _, _, _, _, _, _]) rfl ?_
  have key : ∀ m i t k1 o2 o3 o4 o5 o6 o7, n - i < m → i ≤ n → run blB x n i = ps9 x n t → CUI x n k1 t → KCu k k1 → AW am_P 2 49 195 7 [some (.ref 121), some (.int (nI i)), o2, o3, o4, o5, o6, o7] [] (mh g k1 v pl br lo c ct pr pt cm bf bt) Q := by
    intro m
    induction m with
    | zero => intro i t k1 o2 o3 o4 o5 o6 o7 hm; omega
    | succ m ih =>
      intro i t k1 o2 o3 o4 o5 o6 o7 hm hi hp hT hC
      have h41 : k1.1 4 = nI n := by rw [hC.1 4 (by omega)]; exact h4
      have hx1 : k1.2.1 3 = x := by rw [hC.2.1 3 (by omega)]; exact hx
      have hK1 : KY k1 := fun i hi => by rw [hC.2.2 9 (by omega)]; exact hK i hi
      obtain ⟨hT1, hT2, hT3⟩ := hT
      have hT : CUI x n k1 t := ⟨hT1, hT2, hT3⟩
      refine aw rfl rfl ?_
      refine aw_getfE rfl mg_121 rfl (congrArg Value.int hT1) ?_
      refine aw_c (v := nI 400) rfl (by decide) ?_
      refine aw_igtn rfl (fun c14 => ?_) (fun c14 => ?_)
      · refine aw_vret rfl rfl (q k1 (fun i hi _ => ?_) hC)
        exact hT3 i (by omega)
      · refine aw rfl rfl ?_
        refine aw rfl rfl ?_
        refine aw_cv (d1 := 0) (L1 := 0) rfl rfl mg_121 rfl rfl (by decide) (by decide) (Nat.le_of_ble_eq_true rfl) (c_X11_byteAt h41 hx1 hn (by omega) ?_)
        refine aw_ist (ls' := [_, _, _, _, _, _, _, _]) rfl rfl ?_
        refine aw rfl rfl ?_
        refine aw rfl rfl ?_
        refine aw_getfE rfl mg_121 rfl (congrArg Value.int h41) ?_
        refine aw_iltn rfl (fun c28 => ?_) (fun c28 => ?_)
        · refine aw rfl rfl ?_
          refine aw_c (v := nI 9) rfl (by decide) ?_
          refine aw_ieq rfl (fun c46 => ?_) (fun c46 => ?_)
          · refine aw_incn (c := 1) (ls' := [_, _, _, _, _, _, _, _]) rfl rfl (by decide) rfl ?_
            refine aw rfl rfl ?_
            refine aw rfl rfl ?_
            have hbl : blB (x i) = true := by rw [← bAt_bl hb (by omega)]; unfold blB; simp [c46]
            exact ih (i + 1) t k1 _ _ _ _ _ _ (by omega) (by omega) (by rw [← hp, run_s (by omega) hbl]) hT hC
          · refine aw rfl rfl ?_
            refine aw_c (v := nI 10) rfl (by decide) ?_
            refine aw_ieq rfl (fun c52 => ?_) (fun c52 => ?_)
            · refine aw_incn (c := 1) (ls' := [_, _, _, _, _, _, _, _]) rfl rfl (by decide) rfl ?_
              refine aw rfl rfl ?_
              refine aw rfl rfl ?_
              have hbl : blB (x i) = true := by rw [← bAt_bl hb (by omega)]; unfold blB; simp [c52]
              exact ih (i + 1) t k1 _ _ _ _ _ _ (by omega) (by omega) (by rw [← hp, run_s (by omega) hbl]) hT hC
            · refine aw rfl rfl ?_
              refine aw_c (v := nI 13) rfl (by decide) ?_
              refine aw_ieq rfl (fun c58 => ?_) (fun c58 => ?_)
              · refine aw_incn (c := 1) (ls' := [_, _, _, _, _, _, _, _]) rfl rfl (by decide) rfl ?_
                refine aw rfl rfl ?_
                refine aw rfl rfl ?_
                have hbl : blB (x i) = true := by rw [← bAt_bl hb (by omega)]; unfold blB; simp [c58]
                exact ih (i + 1) t k1 _ _ _ _ _ _ (by omega) (by omega) (by rw [← hp, run_s (by omega) hbl]) hT hC
              · refine aw rfl rfl ?_
                refine aw_c (v := nI 32) rfl (by decide) ?_
                refine aw_ine rfl (fun c64 => ?_) (fun c64 => ?_)
                · have hnb : ¬ (i < n ∧ blB (x i) = true) := fun w => by
                    have w2 := w.2
                    rw [← bAt_bl hb w.1] at w2
                    unfold blB at w2
                    rw [decide_eq_false c46, decide_eq_false c52, decide_eq_false c58, decide_eq_false c64] at w2
                    exact absurd w2 (by decide)
                  have hp9 : ps9 x n t = i := by rw [← hp]; exact run_e hnb
                  refine aw rfl rfl ?_
                  refine aw_cs (d1 := 0) (L1 := 0) rfl rfl (by decide) (by decide) (Nat.le_of_ble_eq_true rfl) (c_X11_isLetter (fun hl => ?_) (fun hl => ?_))
                  · refine aw_eq rfl (fun c => absurd c (by decide)) (fun _ => ?_)
                    refine aw_c (v := nI 0) rfl (by decide) ?_
                    refine aw_ist (ls' := [_, _, _, _, _, _, _, _]) rfl rfl ?_
                    refine aw rfl rfl ?_
                    refine aw_lst (ls' := [_, _, _, _, _, _, _, _]) rfl rfl ?_
                    have hl2 := ((bAt_lt hb).mp hl).2
                    have hin : i < n := ((bAt_lt hb).mp hl).1
                    have hr1 := run_s (P := ltB) (x := x) (n := n) hin hl2
                    have hr2 := run_lo (P := ltB) (x := x) (n := n) (i := i + 1)
                    have hr3 := run_hi (P := ltB) (x := x) (n := n) (i := i) hi
                    have hLe : lL x n i = ltL x i (run ltB x n i - i) := if_pos ⟨hin, hl2⟩
                    have hLn : (lL x n i).length = (run ltB x n i - i) := by rw [hLe, ltL_len]
                    have hLK : lK x n i = wkC (lL x n i) := by unfold lK; rw [if_neg (by omega), if_pos hl2]
                    have hLO : ltO (lL x n i) := by rw [hLe]; exact ltL_ok _ _ (fun j hj => (run_in (P := ltB) (n := n) (i := i) (Nat.le_add_right _ j) (by omega)).1)
                    have hlE : lE x n i = run ltB x n i := by unfold lE; rw [if_neg (by omega), if_pos hl2]
                    refine l_wl h41 hx1 hn hb hin ?_
                    have h179 : ∀ o7, AW am_P 2 49 195 179 [some (.ref 121), some (.int (nI i)), some (.int (bAt x n i)), some (.int (nI (run ltB x n i - i))), some (.long (Int64.ofNat (nmN x i (run ltB x n i - i)))), none, some (.int (nI (wkC (lL x n i)))), o7] [] (mh g k1 v pl br lo c ct pr pt cm bf bt) Q := by
                      intro o7
                      refine aw rfl rfl ?_
                      refine aw rfl rfl ?_
                      refine aw rfl rfl ?_
                      refine aw_c (v := nI 0) rfl (by decide) ?_
                      refine aw rfl rfl ?_
                      refine aw_cv (d1 := 0) (L1 := 0) rfl rfl mg_121 rfl rfl (by decide) (by decide) (Nat.le_of_ble_eq_true rfl) (c_X11_token hT1 (by omega) ?_)
                      refine aw rfl rfl ?_
                      refine aw rfl rfl ?_
                      refine aw_addn rfl ?_
                      refine aw_ist (ls' := [_, _, _, _, _, _, _, _]) rfl rfl ?_
                      refine aw rfl rfl ?_
                      refine aw rfl rfl ?_
                      refine ih _ (t + 1) _ _ _ _ _ _ _ (by omega) (by omega) ?_ (CUI.s hT (by omega) hp9 (by rw [hLK]) (fun w => absurd (hLK.symm.trans w) (wkC_2 _)) (fun w => ?_)) (hC.tr KCu.tu)
                      · show _ = run blB x n (lE x n (ps9 x n t))
                        rw [hp9, hlE, show i + (run ltB x n i - i) = run ltB x n i by omega]
                      · have h8 := (wk_1 (hLK.symm.trans w)).1
                        rw [nmN_e (by omega), hLe]
                    refine aw rfl rfl ?_
                    refine aw_c (v := nI 8) rfl (by decide) ?_
                    refine aw_ilen rfl (fun c127 => ?_) (fun c127 => ?_)
                    · refine aw_c (v := nI 1) rfl (by decide) ?_
                      refine aw_ist (ls' := [_, _, _, _, _, _, _, _]) rfl rfl ?_
                      refine aw rfl rfl ?_
                      refine aw_c (v := nI 7) rfl (by decide) ?_
                      refine aw_igtn rfl (fun c140 => ?_) (fun c140 => ?_)
                      · have hk9 := wkC_8 (L := lL x n i) (by omega)
                        rw [if_pos (by omega)] at hk9
                        rw [hk9] at h179
                        exact h179 _
                      · refine aw_c (v := nI 0) rfl (by decide) ?_
                        refine aw_ist (ls' := [_, _, _, _, _, _, _, _]) rfl rfl ?_
                        rw [nmN_e (by omega), ← hLe] at h179
                        rw [nmN_e (by omega), ← hLe]
                        exact l_kl hK1 hLO (by omega) (h179 _)
                    · refine aw_c (v := nI 3) rfl (by decide) ?_
                      refine aw rfl rfl ?_
                      refine aw_ist (ls' := [_, _, _, _, _, _, _, _]) rfl rfl ?_
                      refine aw rfl rfl ?_
                      refine aw_c (v := nI 7) rfl (by decide) ?_
                      refine aw_igtn rfl (fun c140 => ?_) (fun c140 => by omega)
                      have hk9 := wkC_8 (L := lL x n i) (by omega)
                      rw [if_neg (by omega)] at hk9
                      rw [hk9] at h179
                      exact h179 _
                  · refine aw_eq rfl (fun _ => ?_) (fun c => absurd (by decide) c)
                    refine aw rfl rfl ?_
                    refine aw_cs (d1 := 0) (L1 := 0) rfl rfl (by decide) (by decide) (Nat.le_of_ble_eq_true rfl) (c_X11_isDigit (fun hd => ?_) (fun hd => ?_))
                    · refine aw_eq rfl (fun c => absurd c (by decide)) (fun _ => ?_)
                      refine aw_c (v := nI 0) rfl (by decide) ?_
                      refine aw_ist (ls' := [_, _, _, _, _, _, _, _]) rfl rfl ?_
                      refine aw_c (v := nI 0) rfl (by decide) ?_
                      refine aw_ist (ls' := [_, _, _, _, _, _, _, _]) rfl rfl ?_
                      have hnl : ¬ ltB (x i) = true := fun w => hl ((bAt_lt hb).mpr ⟨by omega, w⟩)
                      have hd2 := ((bAt_dg hb).mp hd).2
                      have hin : i < n := ((bAt_dg hb).mp hd).1
                      have hr1 := run_s (P := dgB) (x := x) (n := n) hin hd2
                      have hr2 := run_lo (P := dgB) (x := x) (n := n) (i := i + 1)
                      have hr3 := run_hi (P := dgB) (x := x) (n := n) (i := i) hi
                      have hLK : lK x n i = if (run dgB x n i - i) ≤ 4 then 2 else 3 := by unfold lK; rw [if_neg (by omega), if_neg hnl, if_pos hd2]
                      have hlE : lE x n i = run dgB x n i := by unfold lE; rw [if_neg (by omega), if_neg hnl, if_pos hd2]
                      refine l_dl h41 hx1 hn hb hin ?_
                      refine aw rfl rfl ?_
                      refine aw rfl rfl ?_
                      refine aw_c (v := nI 4) rfl (by decide) ?_
                      refine aw_ilen rfl (fun c253 => ?_) (fun c253 => ?_)
                      · refine aw_c (v := nI 2) rfl (by decide) ?_
                        refine aw rfl rfl ?_
                        refine aw rfl rfl ?_
                        refine aw rfl rfl ?_
                        refine aw_cv (d1 := 0) (L1 := 0) rfl rfl mg_121 rfl rfl (by decide) (by decide) (Nat.le_of_ble_eq_true rfl) (c_X11_token hT1 (by omega) ?_)
                        refine aw rfl rfl ?_
                        refine aw rfl rfl ?_
                        refine aw_addn rfl ?_
                        refine aw_ist (ls' := [_, _, _, _, _, _, _, _]) rfl rfl ?_
                        refine aw rfl rfl ?_
                        refine aw rfl rfl ?_
                        rw [if_pos c253] at hLK
                        refine ih _ (t + 1) _ _ _ _ _ _ _ (by omega) (by omega) ?_ (CUI.s hT (by omega) hp9 (by rw [hLK]) (fun w => ?_) (fun w => by omega)) (hC.tr KCu.tu)
                        · show _ = run blB x n (lE x n (ps9 x n t))
                          rw [hp9, hlE, show i + (run dgB x n i - i) = run dgB x n i by omega]
                        · rw [show min (run dgB x n i - i) 4 = (run dgB x n i - i) by omega]; unfold lV; rw [if_pos ⟨hd2, c253⟩]
                      · refine aw_c (v := nI 3) rfl (by decide) ?_
                        refine aw rfl rfl ?_
                        refine aw rfl rfl ?_
                        refine aw rfl rfl ?_
                        refine aw rfl rfl ?_
                        refine aw_cv (d1 := 0) (L1 := 0) rfl rfl mg_121 rfl rfl (by decide) (by decide) (Nat.le_of_ble_eq_true rfl) (c_X11_token hT1 (by omega) ?_)
                        refine aw rfl rfl ?_
                        refine aw rfl rfl ?_
                        refine aw_addn rfl ?_
                        refine aw_ist (ls' := [_, _, _, _, _, _, _, _]) rfl rfl ?_
                        refine aw rfl rfl ?_
                        refine aw rfl rfl ?_
                        rw [if_neg c253] at hLK
                        refine ih _ (t + 1) _ _ _ _ _ _ _ (by omega) (by omega) ?_ (CUI.s hT (by omega) hp9 (by rw [hLK]) (fun w => ?_) (fun w => by omega)) (hC.tr KCu.tu)
                        · show _ = run blB x n (lE x n (ps9 x n t))
                          rw [hp9, hlE, show i + (run dgB x n i - i) = run dgB x n i by omega]
                        · omega
                    · refine aw_eq rfl (fun _ => ?_) (fun c => absurd (by decide) c)
                      refine aw rfl rfl ?_
                      refine aw rfl rfl ?_
                      refine aw rfl rfl ?_
                      refine aw rfl rfl ?_
                      refine aw rfl rfl ?_
                      refine aw rfl rfl ?_
                      refine aw_c (v := nI 1) rfl (by decide) ?_
                      refine aw_addn rfl ?_
                      refine aw_cv (d1 := 0) (L1 := 0) rfl rfl mg_121 rfl rfl (by decide) (by decide) (Nat.le_of_ble_eq_true rfl) (c_X11_byteAt h41 hx1 hn (by omega) ?_)
                      refine aw_cv (d1 := 1) (L1 := 25) rfl rfl mg_121 rfl rfl (by decide) (by decide) (Nat.le_of_ble_eq_true rfl) (c_X11_sign hT1 (by omega) ?_)
                      refine aw_addn rfl ?_
                      refine aw_ist (ls' := [_, _, _, _, _, _, _, _]) rfl rfl ?_
                      refine aw rfl rfl ?_
                      have hnl : ¬ ltB (x i) = true := fun w => hl ((bAt_lt hb).mpr ⟨by omega, w⟩)
                      have hnd : ¬ dgB (x i) = true := fun w => hd ((bAt_dg hb).mpr ⟨by omega, w⟩)
                      have hLK : lK x n i = sgC (x i) := by unfold lK; rw [if_neg (by omega), if_neg hnl, if_neg hnd]
                      have hlE : lE x n i = i + 1 := by unfold lE; rw [if_neg (by omega), if_neg hnl, if_neg hnd]
                      have hs3 := sgC_3 (x i)
                      refine ih _ (t + 1) _ _ _ _ _ _ _ (by omega) (by omega) ?_ (CUI.s hT (by omega) hp9 (by rw [hLK, bAt_sg hb (by omega)]) (fun w => by omega) (fun w => by omega)) (hC.tr KCu.tu)
                      show _ = run blB x n (lE x n (ps9 x n t))
                      rw [hp9, hlE]
                · refine aw_incn (c := 1) (ls' := [_, _, _, _, _, _, _, _]) rfl rfl (by decide) rfl ?_
                  refine aw rfl rfl ?_
                  refine aw rfl rfl ?_
                  have hbl : blB (x i) = true := by rw [← bAt_bl hb (by omega)]; unfold blB; simp [c64]
                  exact ih (i + 1) t k1 _ _ _ _ _ _ (by omega) (by omega) (by rw [← hp, run_s (by omega) hbl]) hT hC
        · refine aw rfl rfl ?_
          refine aw_c (v := nI 0) rfl (by decide) ?_
          refine aw rfl rfl ?_
          refine aw_getfE rfl mg_121 rfl (congrArg Value.int h41) ?_
          refine aw_c (v := nI 0) rfl (by decide) ?_
          refine aw rfl rfl ?_
          refine aw_cv (d1 := 0) (L1 := 0) rfl rfl mg_121 rfl rfl (by decide) (by decide) (Nat.le_of_ble_eq_true rfl) (c_X11_token hT1 (by omega) ?_)
          refine aw_vret rfl rfl (q _ (fun j hj hz => ?_) (hC.tr KCu.tu))
          have hp9 : ps9 x n t = n := by rw [← hp, show i = n by omega]; exact run_n (Nat.le_refl n)
          have h0 : lK x n n = 0 := by unfold lK; exact if_pos (Nat.le_refl n)
          have hS := CUI.s (a := nI 0) (d := nI 0) (m := Int64.ofNat 0) hT (by omega) hp9 (by rw [h0]) (fun w => by omega) (fun w => by omega)
          have hjt : j < t + 1 := Nat.lt_of_not_le (fun w => hz t (by omega) (by show lK x n (ps9 x n t) = 0; rw [hp9]; exact h0))
          exact hS.2.2 j hjt
  refine aw rfl rfl ?_
  refine aw_c (v := nI 0) rfl (by decide) ?_
  refine aw_putfU rfl mg_121 rfl rfl (by decide) mp_10 ?_
  refine aw_c (v := nI 0) rfl (by decide) ?_
  refine aw_ist (ls' := [_, _, _, _, _, _, _, _]) rfl rfl ?_
  refine key (n + 1) 0 0 _ _ _ _ _ _ _ (by omega) (Nat.zero_le _) rfl ⟨rfl, by decide, fun j hj => absurd hj (Nat.not_lt_zero j)⟩ ⟨fun n hn => vu_ot hn, fun _ _ => rfl, fun _ _ => rfl⟩
end C1
