/-! ===== the reference's reader: tellOne ===== -/
/-- the reference's side holds D -/
def MD (sd : Nat) (k : Mk) (D : Dt) (t b cn : Nat) : Prop := MA sd k D ∧ MB sd k D.2.1 ∧ MRo sd k D.1 ∧ MWl sd k D.2.2.2.2.2 t b cn
theorem sd_ne {sd w i : Nat} (hs : sd < 2) (h1 : w * (1 - sd) ≤ i) (h2 : i < w * (1 - sd) + w) : i < w * sd ∨ w * sd + w ≤ i := by
  have h : sd = 0 ∨ sd = 1 := by omega
  rcases h with rfl | rfl
  · rw [show 1 - 0 = 1 from rfl, Nat.mul_one] at h1; rw [Nat.mul_zero]; omega
  · rw [show 1 - 1 = 0 from rfl, Nat.mul_zero] at h2; rw [Nat.mul_one]; omega
theorem KNu.sd {sd f lo hi : Nat} {k k' : Mk} (h : KNu f lo hi k k') (hs : sd < 2) (hl : wd9 f * sd ≤ lo) (hh : hi ≤ wd9 f * sd + wd9 f) : SDf (1 - sd) k k' := by
  intro j h2 h4 i h5 h6
  by_cases e : j = f
  · subst e
    have := sd_ne hs h5 h6
    exact h.2.2.1 i (by omega)
  · rw [h.2.1 j e]
theorem KKk.sd {sd l : Nat} {k k' : Mk} (h : KKk sd l k k') (hs : sd < 2) (hl : l < 4) : SDf (1 - sd) k k' := by
  intro j h2 h4 i h5 h6
  have hn := sd_ne hs h5 h6
  by_cases e : j < 26 ∨ 31 < j
  · rw [h.2.1 j e]
  · by_cases e6 : j = 26
    · subst e6
      rw [show wd9 26 = 1 from rfl] at hn
      exact h.2.2.1 i (by omega)
    · by_cases e7 : j = 27
      · subst e7
        rw [show wd9 27 = 4 from rfl] at hn
        exact h.2.2.2.1 i (by omega)
      · have hw : wd9 j = 24 := by unfold wd9; rw [if_neg (by omega), if_neg (by omega), if_pos (by omega)]
        rw [hw] at hn
        exact h.2.2.2.2.1 j i (by omega) (by omega) (by omega)
theorem KRw.sd {sd l : Nat} {k k' : Mk} (h : KRw sd l k k') (hs : sd < 2) (hl : l < 4) : SDf (1 - sd) k k' := by
  intro j h2 h4 i h5 h6
  have hn := sd_ne hs h5 h6
  by_cases e : j < 22 ∨ 24 < j
  · rw [h.2.1 j e]
  · by_cases e4 : j = 24
    · subst e4
      rw [show wd9 24 = 32 from rfl] at hn
      exact h.2.2.2.1 i (by omega)
    · have hw : wd9 j = 1 := by
        have : j = 22 ∨ j = 23 := by omega
        rcases this with rfl | rfl <;> rfl
      rw [hw] at hn
      have := h.2.2.1 i (by omega)
      have e9 : j = 22 ∨ j = 23 := by omega
      rcases e9 with rfl | rfl
      · exact this.1
      · exact this.2
theorem tbN_it {nm : Nat → List Nat} {x : List Nat} : ∀ n, tbN nm x n = true ↔ ∃ i, i < n ∧ nm i = x := by
  intro n
  induction n with
  | zero => exact ⟨fun h => absurd h (by rw [tbN]; decide), fun ⟨i, h, _⟩ => absurd h (Nat.not_lt_zero i)⟩
  | succ n ih =>
    rw [tbN, Bool.or_eq_true, ih, beq_iff_eq]
    constructor
    · rintro (⟨i, h1, h2⟩ | h)
      · exact ⟨i, by omega, h2⟩
      · exact ⟨n, by omega, h⟩
    · rintro ⟨i, h1, h2⟩
      by_cases e : i = n
      · subst e; exact Or.inr h2
      · exact Or.inl ⟨i, by omega, h2⟩
theorem tbN_any {x : List Nat} {l : List (List Nat × List OT)} : tbN (fun i => (l.getD i ([], [])).1) x l.length = l.any (fun y => y.1 == x) := by
  rw [Bool.eq_iff_iff, tbN_it, List.any_eq_true]
  constructor
  · rintro ⟨i, hi, e⟩
    refine ⟨l.getD i ([], []), ?_, beq_iff_eq.mpr e⟩
    rw [List.getD_eq_getElem?_getD, List.getElem?_eq_getElem hi]
    exact List.getElem_mem _
  · rintro ⟨y, hy, e⟩
    obtain ⟨j, hj, ej⟩ := List.getElem_of_mem hy
    refine ⟨j, hj, ?_⟩
    have ej2 : l.getD j ([], []) = y := by rw [List.getD_eq_getElem?_getD, List.getElem?_eq_getElem hj]; exact ej
    show (l.getD j ([], [])).1 = x
    rw [ej2]
    exact beq_iff_eq.mp e
theorem sub25 : ∀ x, x < 25 → ¬ ¬ (nI x - nI 25 : Int32) < 0 := by decide
section C1
variable {g : am_H} {k : Mk} {v pl : Nat → Int32} {br lo : Int32} {c ct pr pt cm bf bt : Nat → Int32}
variable {Y : Tk} {s : Ps}
variable {sd b cn : Nat} {D : Dt}
set_option maxRecDepth 4000 in
theorem c_X11_tellOne {Q : Option Value → am_H → Prop} (hs : sd < 2) (hYN : YNm Y) (hR : RM Y k s) (hf : s.2.1.1 = 0) (hne : ¬ Y.1 s.1 = 0) (h19 : k.1 19 = nI sd) (hD : MD sd k D s.1 b cn) (q : ∀ k', RM Y k' (tl Y D s).2 → KP k k' → SDf (1 - sd) k k' → ((tl Y D s).2.2.1.1 = 0 → ∃ b' cn', MD sd k' (tl Y D s).1 (tl Y D s).2.1 b' cn') → Q none (mh g k' v pl br lo c ct pr pt cm bf bt)) : AC am_P 6 126 202 [.ref 121] (mh g k v pl br lo c ct pr pt cm bf bt) Q := by
  refine AC.of (ls := [_, _]) rfl ?_
  obtain ⟨dA, dB, dR, dW⟩ := hD
  obtain ⟨h11, hz, _⟩ := hR.2.2.2.2.1 hf
  have h400 := hR.2.1
  have hkd := (hR.1.1 s.1 h400 hz).1
  have hk9 := hR.1.2.1.1 s.1
  have hne9 : s.2.1.1 = 0 → ¬ Y.1 s.1 = 0 := fun _ => hne
  have hrl := dR.2.1
  have hkl := dB.2.2.1
  have h22 := dR.1
  have h26 := dB.1
  obtain ⟨dw1, dw2, dw3, dw4, dw5, dw6, dw7, dw8⟩ := dW
  have dW : MWl sd k D.2.2.2.2.2 s.1 b cn := ⟨dw1, dw2, dw3, dw4, dw5, dw6, dw7, dw8⟩
  have hfl2 : (fl Y 2 s).2.1.1 < 8 := by unfold fl; rw [if_pos hf]; show 2 < 8; decide
  have hkOK : Y.1 s.1 ≤ 42 := by unfold kOK sgK at hk9; omega
  have hno : Y.1 s.1 < 20 ∨ 32 < Y.1 s.1 ∨ Y.1 s.1 = 23 ∨ Y.1 s.1 = 24 → tl Y D s = (D, fl Y 1 s) := by
    intro hh
    have e1 : tl1 Y D s = (D, fl Y 1 s) := by unfold tl1; rw [if_neg (by omega), if_neg (by omega), if_neg (by omega), if_neg (by omega), if_neg (by omega), if_neg (by omega), if_neg (by omega), if_neg (by omega), if_neg (by omega)]
    unfold tl
    rw [e1]
    show (D, mu Y 4 (fl Y 1 s)) = _
    rw [mu_f (fl_0 (by decide))]
  have hA : Y.1 s.1 < 25 → ¬ (20 ≤ Y.1 s.1 ∧ Y.1 s.1 ≤ 22) → AW am_P 6 126 202 341 [some (.ref 121), none] [] (mh g k v pl br lo c ct pr pt cm bf bt) Q := by
    intro ha hb9
    refine aw rfl rfl ?_
    refine aw_getf rfl mg_121 rfl ?_
    refine aw rfl rfl ?_
    refine aw_getfE rfl mg_121 rfl (congrArg Value.int h11) ?_
    refine aw_ialdE rfl mg_124 rfl (by omega) (by decide) hkd ?_
    refine aw_c (v := nI 25) rfl (by decide) ?_
    refine aw rfl rfl ?_
    refine aw_ist (ls' := [_, _]) rfl rfl ?_
    refine aw rfl rfl ?_
    refine aw_lt rfl (fun c355 => ?_) (fun c355 => absurd c355 (sub25 _ ha))
    refine aw rfl rfl ?_
    refine aw_c (v := nI 1) rfl (by decide) ?_
    refine aw_cv (d1 := 0) (L1 := 0) rfl rfl mg_121 rfl rfl (by decide) (by decide) (Nat.le_of_ble_eq_true rfl) (c_X11_fail hR (by decide) (fun k1 hR1 hk1 => ?_))
    have hlt1 := hR1.2.2.1
    refine aw rfl rfl ?_
    refine aw_getfE rfl mg_121 rfl (congrArg Value.int hR1.2.2.2.1) ?_
    refine aw_len rfl (fun c381 => absurd (by omega) (fl_0 (Y := Y) (c := 1) (s := s) (by decide))) (fun c381 => ?_)
    exact aw_vret rfl rfl (by rw [hno (by omega)] at q; exact q k1 hR1 hk1.kp hk1.sd (fun w => absurd w (fl_0 (by decide))))
  have hB : 32 < Y.1 s.1 → AW am_P 6 126 202 341 [some (.ref 121), none] [] (mh g k v pl br lo c ct pr pt cm bf bt) Q := by
    intro ha
    refine aw rfl rfl ?_
    refine aw_getf rfl mg_121 rfl ?_
    refine aw rfl rfl ?_
    refine aw_getfE rfl mg_121 rfl (congrArg Value.int h11) ?_
    refine aw_ialdE rfl mg_124 rfl (by omega) (by decide) hkd ?_
    refine aw_c (v := nI 25) rfl (by decide) ?_
    refine aw_subn rfl (by omega) ?_
    refine aw_ist (ls' := [_, _]) rfl rfl ?_
    refine aw rfl rfl ?_
    refine aw_ltn rfl ?_
    refine aw rfl rfl ?_
    refine aw_getf rfl mg_121 rfl ?_
    refine aw rfl rfl ?_
    refine aw_getfE rfl mg_121 rfl (congrArg Value.int h11) ?_
    refine aw_ialdE rfl mg_124 rfl (by omega) (by decide) hkd ?_
    refine aw_c (v := nI 27) rfl (by decide) ?_
    refine aw_ilen rfl (fun c369 => by omega) (fun c369 => ?_)
    refine aw rfl rfl ?_
    refine aw_c (v := nI 1) rfl (by decide) ?_
    refine aw_cv (d1 := 0) (L1 := 0) rfl rfl mg_121 rfl rfl (by decide) (by decide) (Nat.le_of_ble_eq_true rfl) (c_X11_fail hR (by decide) (fun k1 hR1 hk1 => ?_))
    have hlt1 := hR1.2.2.1
    refine aw rfl rfl ?_
    refine aw_getfE rfl mg_121 rfl (congrArg Value.int hR1.2.2.2.1) ?_
    refine aw_len rfl (fun c381 => absurd (by omega) (fl_0 (Y := Y) (c := 1) (s := s) (by decide))) (fun c381 => ?_)
    exact aw_vret rfl rfl (by rw [hno (by omega)] at q; exact q k1 hR1 hk1.kp hk1.sd (fun w => absurd w (fl_0 (by decide))))
  have hC : 25 ≤ Y.1 s.1 → Y.1 s.1 ≤ 27 → AW am_P 6 126 202 341 [some (.ref 121), none] [] (mh g k v pl br lo c ct pr pt cm bf bt) Q := by
    intro h25 h27
    have e1 : tl1 Y D s = ((D.1, D.2.1, D.2.2.1, D.2.2.2.1, D.2.2.2.2.1, va_up D.2.2.2.2.2 (Y.1 s.1 - 25) (lwA Y s).1), (lwA Y s).2) := by unfold tl1; rw [if_neg (by omega), if_neg (by omega), if_pos (by omega)]
    have e2 : tl Y D s = ((((D.1, D.2.1, D.2.2.1, D.2.2.2.1, D.2.2.2.2.1, va_up D.2.2.2.2.2 (Y.1 s.1 - 25) (lwA Y s).1), (lwA Y s).2)).1, mu Y 4 (((D.1, D.2.1, D.2.2.1, D.2.2.2.1, D.2.2.2.2.1, va_up D.2.2.2.2.2 (Y.1 s.1 - 25) (lwA Y s).1), (lwA Y s).2)).2) := by unfold tl; rw [e1]
    rw [e2] at q
    refine aw rfl rfl ?_
    refine aw_getf rfl mg_121 rfl ?_
    refine aw rfl rfl ?_
    refine aw_getfE rfl mg_121 rfl (congrArg Value.int h11) ?_
    refine aw_ialdE rfl mg_124 rfl (by omega) (by decide) hkd ?_
    refine aw_c (v := nI 25) rfl (by decide) ?_
    refine aw_subn rfl (by omega) ?_
    refine aw_ist (ls' := [_, _]) rfl rfl ?_
    refine aw rfl rfl ?_
    refine aw_ltn rfl ?_
    refine aw rfl rfl ?_
    refine aw_getf rfl mg_121 rfl ?_
    refine aw rfl rfl ?_
    refine aw_getfE rfl mg_121 rfl (congrArg Value.int h11) ?_
    refine aw_ialdE rfl mg_124 rfl (by omega) (by decide) hkd ?_
    refine aw_c (v := nI 27) rfl (by decide) ?_
    refine aw_ilen rfl (fun c369 => ?_) (fun c369 => by omega)
    refine aw rfl rfl ?_
    refine aw_getfE rfl mg_121 rfl (congrArg Value.int hR.2.2.2.1) ?_
    refine aw_len rfl (fun c381 => ?_) (fun c381 => by omega)
    refine aw rfl rfl ?_
    refine aw_cv (d1 := 1) (L1 := 21) rfl rfl mg_121 rfl rfl (by decide) (by decide) (Nat.le_of_ble_eq_true rfl) (c_X11_goesOn hR hne9 (fun k1 hR1 hk1 => ?_))
    have hok1 : (go Y s).2.1.1 = 0 → k1.1 12 = nI 0 ∧ cn + 1 ≤ 420 * sd + (go Y s).1 ∧ 4 * b + 1 ≤ 520 * sd + (go Y s).1 := fun w => by
      obtain ⟨_, _, g3⟩ := go_1 w
      rw [g3, hk1.1 12 (by omega)]
      refine ⟨dw1, ?_, ?_⟩
      · show cn + 1 ≤ 420 * sd + (s.1 + 1); omega
      · show 4 * b + 1 ≤ 520 * sd + (s.1 + 1); omega
    refine aw rfl rfl ?_
    refine aw rfl rfl ?_
    refine aw_cv (d1 := 5) (L1 := 103) rfl rfl mg_121 rfl rfl (by decide) (by decide) (Nat.le_of_ble_eq_true rfl) (c_X11_tellLaw hs (by omega) hR1 (by rw [hk1.1 19 (by omega)]; exact h19) (by rw [hk1.1 39 (by omega)]; exact dw2) (by rw [hk1.1 45 (by omega)]; exact dw3) (by omega) dw5 hok1 (fun k2 hR2 hk2 ok2 => ?_))
    exact aw_vret rfl rfl (q k2 hR2 (hk1.kp.tr hk2.kp) (hk1.sd.tr (hk2.sd hs (by omega) dw4 dw5)) (fun w => by
      obtain ⟨⟨c', f1, f2, ⟨f3, f4⟩, f5⟩, f6, f7, f8, f9⟩ := ok2 w
      refine ⟨b + (lwL Y 4 (mu Y 5 (go Y s))).1.length, c', (dA.cg (fun n _ => by rw [hk1.2])).cg (fun n hn => hk2.2.1 n (by omega)), (dB.cg (hk1.1 20 (by omega)) (fun n _ _ => by rw [hk1.2]) (by rw [hk1.2])).cg (hk2.1 20 (by omega)) (fun n _ _ => hk2.2.1 n (by omega)) (by rw [hk2.2.2.2.2.2]), (dR.cg (fun n _ _ => by rw [hk1.2])).cg (fun n _ _ => hk2.2.1 n (by omega)), ?_⟩
      exact MWl.law (dW.cg (hk1.1 12 (by omega)) (hk1.1 39 (by omega)) (hk1.1 45 (by omega)) (fun n _ _ => by rw [hk1.2]) (Nat.le_refl _)) hk2 f1 f2 f3 f4 f5 f6 f7 f8 f9))
  have hcs : Y.1 s.1 = 20 ∨ Y.1 s.1 = 21 ∨ Y.1 s.1 = 22 ∨ Y.1 s.1 = 23 ∨ Y.1 s.1 = 24 ∨ Y.1 s.1 = 25 ∨ Y.1 s.1 = 26 ∨ Y.1 s.1 = 27 ∨ Y.1 s.1 = 28 ∨ Y.1 s.1 = 29 ∨ Y.1 s.1 = 30 ∨ Y.1 s.1 = 31 ∨ Y.1 s.1 = 32 ∨ (Y.1 s.1 < 20 ∨ 32 < Y.1 s.1) := by omega
  rcases hcs with h1 | h1 | h1 | h1 | h1 | h1 | h1 | h1 | h1 | h1 | h1 | h1 | h1 | h1
  · have e0 : tl1 Y D s = (if D.1.length = 4 then (D, fl Y 2 s) else ((D.1 ++ [Y.2.2.2 (go Y s).1], D.2), rwS Y D.1.length (D.1.headD []).length s)) := by unfold tl1; rw [if_pos h1]
    have h8w : (D.1.headD []).length ≤ 8 := by
      cases hD1 : D.1 with
      | nil => exact Nat.zero_le 8
      | cons x r => have := (dR.2.2.2 0 (by rw [hD1]; exact Nat.succ_pos _)).1; rw [hD1] at this; exact this
    refine aw rfl rfl ?_
    refine aw_getf rfl mg_121 rfl ?_
    refine aw rfl rfl ?_
    refine aw_getfE rfl mg_121 rfl (congrArg Value.int h11) ?_
    refine aw_ialdE rfl mg_124 rfl (by omega) (by decide) (hkd.trans (congrArg nI h1)) ?_
    refine aw_ts (z := 20) (tgt := 76) rfl (by decide) (by decide) ?_
    refine aw rfl rfl ?_
    refine aw_getf rfl mg_121 rfl ?_
    refine aw rfl rfl ?_
    refine aw_getfE rfl mg_121 rfl (congrArg Value.int h19) ?_
    refine aw_ialdE rfl mg_130 rfl (by omega) (by decide) h22 ?_
    refine aw_c (v := nI 4) rfl (by decide) ?_
    refine aw_inen rfl (fun c86 => ?_) (fun c86 => ?_)
    · refine aw rfl rfl ?_
      refine aw_getfE rfl mg_121 rfl (congrArg Value.int hR.2.2.2.1) ?_
      refine aw_nen rfl (fun c98 => absurd hf c98) (fun c98 => ?_)
      have e2 : tl Y D s = ((D.1 ++ [Y.2.2.2 (go Y s).1], D.2), mu Y 4 (rwS Y D.1.length (D.1.headD []).length s)) := by unfold tl; rw [e0, if_neg c86]
      rw [e2] at q
      refine aw rfl rfl ?_
      refine aw_cv (d1 := 3) (L1 := 62) rfl rfl mg_121 rfl rfl (by decide) (by decide) (Nat.le_of_ble_eq_true rfl) (c_X11_tellRow hs (by omega) h8w hYN hR hne9 h19 h22 dR.2.2.1 (fun k1 hR1 hk1 ok1 => ?_))
      refine aw rfl rfl ?_
      exact aw_vret rfl rfl (q k1 hR1 hk1.kp (hk1.sd hs (by omega)) (fun w => by
            obtain ⟨f1, f2, f3⟩ := ok1 w
            have hm4 := (mu_1 w).1
            have hmu : (mu Y 1 (go Y s)).2.1.1 = 0 := by
              unfold rwS at hm4
              split at hm4
              · rw [wr_0.1] at hm4; exact hm4
              · exact hm4
            obtain ⟨m1, m2, _⟩ := mu_1 hmu
            have g2 := (go_1 m1).2.2
            have hz2 : ∀ j, j < (go Y s).1 → ¬ Y.1 j = 0 := fun j hj => by
              rw [g2] at hj
              have hj : j < s.1 + 1 := hj
              by_cases e : j = s.1
              · rw [e]; exact hne
              · exact hz j (by omega)
            have hn := hYN (go Y s).1 (go_le h400) hz2 m2
            exact ⟨b, cn, dA.cg (fun n hn => hk1.2.1 n (by omega)), dB.cg (hk1.1 20 (by omega)) (fun n _ _ => hk1.2.1 n (by omega)) (by rw [hk1.2.2.2.2]), dR.row (by omega) hk1 hn.2 f1 f2 f3, dW.cg (hk1.1 12 (by omega)) (hk1.1 39 (by omega)) (hk1.1 45 (by omega)) (fun n _ _ => hk1.2.1 n (by omega)) (Nat.le_trans rwS_mo mu_mo)⟩))
    · refine aw rfl rfl ?_
      refine aw_c (v := nI 2) rfl (by decide) ?_
      refine aw_cv (d1 := 0) (L1 := 0) rfl rfl mg_121 rfl rfl (by decide) (by decide) (Nat.le_of_ble_eq_true rfl) (c_X11_fail hR (by decide) (fun k1 hR1 hk1 => ?_))
      refine aw rfl rfl ?_
      refine aw_getfE rfl mg_121 rfl (congrArg Value.int hR1.2.2.2.1) ?_
      refine aw_nen rfl (fun c98 => ?_) (fun c98 => absurd c98 (fl_0 (by decide)))
      have e2 : tl Y D s = (D, fl Y 2 s) := by
        unfold tl
        rw [e0, if_pos c86]
        show (D, mu Y 4 (fl Y 2 s)) = _
        rw [mu_f (fl_0 (by decide))]
      rw [e2] at q
      exact aw_vret rfl rfl (q k1 hR1 hk1.kp hk1.sd (fun w => absurd w (fl_0 (by decide))))
  · have e1 : tl1 Y D s = ((D.1, D.2.1, va_up D.2.2.1 2 (iV Y 1 (go Y s)), D.2.2.2), iS Y 1 3 (go Y s)) := by unfold tl1; rw [if_neg (by omega), if_neg (by omega), if_neg (by omega), if_neg (by omega), if_neg (by omega), if_pos h1]
    have e2 : tl Y D s = ((((D.1, D.2.1, va_up D.2.2.1 2 (iV Y 1 (go Y s)), D.2.2.2), iS Y 1 3 (go Y s))).1, mu Y 4 (((D.1, D.2.1, va_up D.2.2.1 2 (iV Y 1 (go Y s)), D.2.2.2), iS Y 1 3 (go Y s))).2) := by unfold tl; rw [e1]
    rw [e2] at q
    refine aw rfl rfl ?_
    refine aw_getf rfl mg_121 rfl ?_
    refine aw rfl rfl ?_
    refine aw_getfE rfl mg_121 rfl (congrArg Value.int h11) ?_
    refine aw_ialdE rfl mg_124 rfl (by omega) (by decide) (hkd.trans (congrArg nI h1)) ?_
    refine aw_ts (z := 21) (tgt := 108) rfl (by decide) (by decide) ?_
    exact l_tn25 hs hR hne9 h19 (fun k1 hR1 hk1 ok1 => q k1 hR1 (hk1.kp (by decide)) (hk1.sd hs (by show 1 * sd ≤ sd; omega) (by show sd + 1 ≤ 1 * sd + 1; omega)) (fun w => by
          obtain ⟨a1, a2, a3, a4, a5, a6⟩ := dA
          refine ⟨b, cn, ⟨ok1 w, (congrFun (hk1.2.1 34 (by decide)) sd).trans a2, (congrFun (hk1.2.1 35 (by decide)) sd).trans a3, (congrFun (hk1.2.1 36 (by decide)) sd).trans a4, fun i hi => (congrFun (hk1.2.1 32 (by decide)) _).trans (a5 i hi), fun i hi => (congrFun (hk1.2.1 33 (by decide)) _).trans (a6 i hi)⟩, dB.cg (hk1.1 20 (by omega)) (fun n _ _ => hk1.2.1 n (by omega)) (by rw [hk1.2.2.2]), dR.cg (fun n _ _ => hk1.2.1 n (by omega)), dW.cg (hk1.1 12 (by omega)) (hk1.1 39 (by omega)) (hk1.1 45 (by omega)) (fun n _ _ => hk1.2.1 n (by omega)) (Nat.le_trans go_mo (Nat.le_trans iS_mo mu_mo))⟩))
  · have e0 : tl1 Y D s = (if D.2.1.length = 4 then (D, fl Y 2 s) else ((D.1, D.2.1 ++ [(kkN Y s, kkO Y (kkT Y D s) s)], D.2.2), kkS Y (kkT Y D s) s)) := by unfold tl1; rw [if_neg (by omega), if_pos h1]
    refine aw rfl rfl ?_
    refine aw_getf rfl mg_121 rfl ?_
    refine aw rfl rfl ?_
    refine aw_getfE rfl mg_121 rfl (congrArg Value.int h11) ?_
    refine aw_ialdE rfl mg_124 rfl (by omega) (by decide) (hkd.trans (congrArg nI h1)) ?_
    refine aw_ts (z := 22) (tgt := 135) rfl (by decide) (by decide) ?_
    refine aw rfl rfl ?_
    refine aw_getf rfl mg_121 rfl ?_
    refine aw rfl rfl ?_
    refine aw_getfE rfl mg_121 rfl (congrArg Value.int h19) ?_
    refine aw_ialdE rfl mg_134 rfl (by omega) (by decide) h26 ?_
    refine aw_c (v := nI 4) rfl (by decide) ?_
    refine aw_inen rfl (fun c145 => ?_) (fun c145 => ?_)
    · refine aw rfl rfl ?_
      refine aw_getfE rfl mg_121 rfl (congrArg Value.int hR.2.2.2.1) ?_
      refine aw_nen rfl (fun c157 => absurd hf c157) (fun c157 => ?_)
      have e2 : tl Y D s = ((D.1, D.2.1 ++ [(kkN Y s, kkO Y (kkT Y D s) s)], D.2.2), mu Y 4 (kkS Y (kkT Y D s) s)) := by unfold tl; rw [e0, if_neg c145]
      rw [e2] at q
      have etb : tbN (fun i => (D.2.1.getD i ([], [])).1) (kkN Y s) D.2.1.length = kkT Y D s := tbN_any
      refine aw rfl rfl ?_
      refine aw_cv (d1 := 4) (L1 := 87) rfl rfl mg_121 rfl rfl (by decide) (by decide) (Nat.le_of_ble_eq_true rfl) (c_X11_tellKick (nm := fun i => (D.2.1.getD i ([], [])).1) hs (by omega) hYN hR hne9 h19 h26 dB.2.1 (fun i hi => ⟨(dB.2.2.2 i hi).1, (dB.2.2.2 i hi).2.1, (dB.2.2.2 i hi).2.2.1⟩) (fun k1 hR1 hk1 ok1 => ?_))
      rw [etb] at hR1 ok1
      refine aw rfl rfl ?_
      exact aw_vret rfl rfl (q k1 hR1 hk1.kp (hk1.sd hs (by omega)) (fun w => by
            obtain ⟨f1, f2, f3, f4, f5⟩ := ok1 w
            have hm4 := (mu_1 w).1
            have hmu : (mu Y 1 (go Y s)).2.1.1 = 0 := Decidable.of_not_not (fun z => by rw [kkS_f z] at hm4; exact z hm4)
            obtain ⟨m1, m2, _⟩ := mu_1 hmu
            have g2 := (go_1 m1).2.2
            have hz2 : ∀ j, j < (go Y s).1 → ¬ Y.1 j = 0 := fun j hj => by
              rw [g2] at hj
              have hj : j < s.1 + 1 := hj
              by_cases e : j = s.1
              · rw [e]; exact hne
              · exact hz j (by omega)
            have hn := hYN (go Y s).1 (go_le h400) hz2 m2
            exact ⟨b, cn, dA.cg (fun n hn => hk1.2.1 n (by omega)), dB.kick (by omega) hk1 hn.1 hn.2 (ots_len 6 _) f1 f2 f3 f4 f5, dR.cg (fun n _ _ => hk1.2.1 n (by omega)), dW.cg (hk1.1 12 (by omega)) (hk1.1 39 (by omega)) (hk1.1 45 (by omega)) (fun n _ _ => hk1.2.1 n (by omega)) (Nat.le_trans kkS_mo mu_mo)⟩))
    · refine aw rfl rfl ?_
      refine aw_c (v := nI 2) rfl (by decide) ?_
      refine aw_cv (d1 := 0) (L1 := 0) rfl rfl mg_121 rfl rfl (by decide) (by decide) (Nat.le_of_ble_eq_true rfl) (c_X11_fail hR (by decide) (fun k1 hR1 hk1 => ?_))
      refine aw rfl rfl ?_
      refine aw_getfE rfl mg_121 rfl (congrArg Value.int hR1.2.2.2.1) ?_
      refine aw_nen rfl (fun c157 => ?_) (fun c157 => absurd c157 (fl_0 (by decide)))
      have e2 : tl Y D s = (D, fl Y 2 s) := by
        unfold tl
        rw [e0, if_pos c145]
        show (D, mu Y 4 (fl Y 2 s)) = _
        rw [mu_f (fl_0 (by decide))]
      rw [e2] at q
      exact aw_vret rfl rfl (q k1 hR1 hk1.kp hk1.sd (fun w => absurd w (fl_0 (by decide))))
  · refine aw rfl rfl ?_
    refine aw_getf rfl mg_121 rfl ?_
    refine aw rfl rfl ?_
    refine aw_getfE rfl mg_121 rfl (congrArg Value.int h11) ?_
    refine aw_ialdE rfl mg_124 rfl (by omega) (by decide) (hkd.trans (congrArg nI h1)) ?_
    refine aw_ts (z := 23) (tgt := 341) rfl (by decide) (by decide) ?_
    exact hA (by omega) (by omega)
  · refine aw rfl rfl ?_
    refine aw_getf rfl mg_121 rfl ?_
    refine aw rfl rfl ?_
    refine aw_getfE rfl mg_121 rfl (congrArg Value.int h11) ?_
    refine aw_ialdE rfl mg_124 rfl (by omega) (by decide) (hkd.trans (congrArg nI h1)) ?_
    refine aw_ts (z := 24) (tgt := 341) rfl (by decide) (by decide) ?_
    exact hA (by omega) (by omega)
  · refine aw rfl rfl ?_
    refine aw_getf rfl mg_121 rfl ?_
    refine aw rfl rfl ?_
    refine aw_getfE rfl mg_121 rfl (congrArg Value.int h11) ?_
    refine aw_ialdE rfl mg_124 rfl (by omega) (by decide) (hkd.trans (congrArg nI h1)) ?_
    refine aw_ts (z := 25) (tgt := 341) rfl (by decide) (by decide) ?_
    exact hC (by omega) (by omega)
  · refine aw rfl rfl ?_
    refine aw_getf rfl mg_121 rfl ?_
    refine aw rfl rfl ?_
    refine aw_getfE rfl mg_121 rfl (congrArg Value.int h11) ?_
    refine aw_ialdE rfl mg_124 rfl (by omega) (by decide) (hkd.trans (congrArg nI h1)) ?_
    refine aw_ts (z := 26) (tgt := 341) rfl (by decide) (by decide) ?_
    exact hC (by omega) (by omega)
  · refine aw rfl rfl ?_
    refine aw_getf rfl mg_121 rfl ?_
    refine aw rfl rfl ?_
    refine aw_getfE rfl mg_121 rfl (congrArg Value.int h11) ?_
    refine aw_ialdE rfl mg_124 rfl (by omega) (by decide) (hkd.trans (congrArg nI h1)) ?_
    refine aw_ts (z := 27) (tgt := 341) rfl (by decide) (by decide) ?_
    exact hC (by omega) (by omega)
  · have e1 : tl1 Y D s = ((D.1, D.2.1, D.2.2.1, spV Y s, D.2.2.2.2), spS Y s) := by unfold tl1; rw [if_neg (by omega), if_neg (by omega), if_neg (by omega), if_pos h1]
    have e2 : tl Y D s = ((((D.1, D.2.1, D.2.2.1, spV Y s, D.2.2.2.2), spS Y s)).1, mu Y 4 (((D.1, D.2.1, D.2.2.1, spV Y s, D.2.2.2.2), spS Y s)).2) := by unfold tl; rw [e1]
    rw [e2] at q
    refine aw rfl rfl ?_
    refine aw_getf rfl mg_121 rfl ?_
    refine aw rfl rfl ?_
    refine aw_getfE rfl mg_121 rfl (congrArg Value.int h11) ?_
    refine aw_ialdE rfl mg_124 rfl (by omega) (by decide) (hkd.trans (congrArg nI h1)) ?_
    refine aw_ts (z := 28) (tgt := 167) rfl (by decide) (by decide) ?_
    exact l_ts32 hs hR hne9 h19 (fun k1 hR1 hk1 ok1 => q k1 hR1 (hk1.kp (by decide)) (hk1.sd hs (by show 3 * sd ≤ 3 * sd; omega) (by show 3 * sd + 3 ≤ 3 * sd + 3; omega)) (fun w => by
          obtain ⟨a1, a2, a3, a4, a5, a6⟩ := dA
          refine ⟨b, cn, ⟨(congrFun (hk1.2.1 25 (by decide)) sd).trans a1, (congrFun (hk1.2.1 34 (by decide)) sd).trans a2, (congrFun (hk1.2.1 35 (by decide)) sd).trans a3, (congrFun (hk1.2.1 36 (by decide)) sd).trans a4, ok1 w, fun i hi => (congrFun (hk1.2.1 33 (by decide)) _).trans (a6 i hi)⟩, dB.cg (hk1.1 20 (by omega)) (fun n _ _ => hk1.2.1 n (by omega)) (by rw [hk1.2.2.2]), dR.cg (fun n _ _ => hk1.2.1 n (by omega)), dW.cg (hk1.1 12 (by omega)) (hk1.1 39 (by omega)) (hk1.1 45 (by omega)) (fun n _ _ => hk1.2.1 n (by omega)) (Nat.le_trans spS_mo mu_mo)⟩))
  · have e1 : tl1 Y D s = ((D.1, D.2.1, D.2.2.1, D.2.2.2.1, spV Y s, D.2.2.2.2.2), spS Y s) := by unfold tl1; rw [if_neg (by omega), if_neg (by omega), if_neg (by omega), if_neg (by omega), if_pos h1]
    have e2 : tl Y D s = ((((D.1, D.2.1, D.2.2.1, D.2.2.2.1, spV Y s, D.2.2.2.2.2), spS Y s)).1, mu Y 4 (((D.1, D.2.1, D.2.2.1, D.2.2.2.1, spV Y s, D.2.2.2.2.2), spS Y s)).2) := by unfold tl; rw [e1]
    rw [e2] at q
    refine aw rfl rfl ?_
    refine aw_getf rfl mg_121 rfl ?_
    refine aw rfl rfl ?_
    refine aw_getfE rfl mg_121 rfl (congrArg Value.int h11) ?_
    refine aw_ialdE rfl mg_124 rfl (by omega) (by decide) (hkd.trans (congrArg nI h1)) ?_
    refine aw_ts (z := 29) (tgt := 212) rfl (by decide) (by decide) ?_
    exact l_ts33 hs hR hne9 h19 (fun k1 hR1 hk1 ok1 => q k1 hR1 (hk1.kp (by decide)) (hk1.sd hs (by show 3 * sd ≤ 3 * sd; omega) (by show 3 * sd + 3 ≤ 3 * sd + 3; omega)) (fun w => by
          obtain ⟨a1, a2, a3, a4, a5, a6⟩ := dA
          refine ⟨b, cn, ⟨(congrFun (hk1.2.1 25 (by decide)) sd).trans a1, (congrFun (hk1.2.1 34 (by decide)) sd).trans a2, (congrFun (hk1.2.1 35 (by decide)) sd).trans a3, (congrFun (hk1.2.1 36 (by decide)) sd).trans a4, fun i hi => (congrFun (hk1.2.1 32 (by decide)) _).trans (a5 i hi), ok1 w⟩, dB.cg (hk1.1 20 (by omega)) (fun n _ _ => hk1.2.1 n (by omega)) (by rw [hk1.2.2.2]), dR.cg (fun n _ _ => hk1.2.1 n (by omega)), dW.cg (hk1.1 12 (by omega)) (hk1.1 39 (by omega)) (hk1.1 45 (by omega)) (fun n _ _ => hk1.2.1 n (by omega)) (Nat.le_trans spS_mo mu_mo)⟩))
  · have e1 : tl1 Y D s = ((D.1, D.2.1, va_up D.2.2.1 4 (iV Y 0 (go Y s)), D.2.2.2), iS Y 0 2 (go Y s)) := by unfold tl1; rw [if_neg (by omega), if_neg (by omega), if_neg (by omega), if_neg (by omega), if_neg (by omega), if_neg (by omega), if_pos h1]
    have e2 : tl Y D s = ((((D.1, D.2.1, va_up D.2.2.1 4 (iV Y 0 (go Y s)), D.2.2.2), iS Y 0 2 (go Y s))).1, mu Y 4 (((D.1, D.2.1, va_up D.2.2.1 4 (iV Y 0 (go Y s)), D.2.2.2), iS Y 0 2 (go Y s))).2) := by unfold tl; rw [e1]
    rw [e2] at q
    refine aw rfl rfl ?_
    refine aw_getf rfl mg_121 rfl ?_
    refine aw rfl rfl ?_
    refine aw_getfE rfl mg_121 rfl (congrArg Value.int h11) ?_
    refine aw_ialdE rfl mg_124 rfl (by omega) (by decide) (hkd.trans (congrArg nI h1)) ?_
    refine aw_ts (z := 30) (tgt := 257) rfl (by decide) (by decide) ?_
    exact l_tn34 hs hR hne9 h19 (fun k1 hR1 hk1 ok1 => q k1 hR1 (hk1.kp (by decide)) (hk1.sd hs (by show 1 * sd ≤ sd; omega) (by show sd + 1 ≤ 1 * sd + 1; omega)) (fun w => by
          obtain ⟨a1, a2, a3, a4, a5, a6⟩ := dA
          refine ⟨b, cn, ⟨(congrFun (hk1.2.1 25 (by decide)) sd).trans a1, ok1 w, (congrFun (hk1.2.1 35 (by decide)) sd).trans a3, (congrFun (hk1.2.1 36 (by decide)) sd).trans a4, fun i hi => (congrFun (hk1.2.1 32 (by decide)) _).trans (a5 i hi), fun i hi => (congrFun (hk1.2.1 33 (by decide)) _).trans (a6 i hi)⟩, dB.cg (hk1.1 20 (by omega)) (fun n _ _ => hk1.2.1 n (by omega)) (by rw [hk1.2.2.2]), dR.cg (fun n _ _ => hk1.2.1 n (by omega)), dW.cg (hk1.1 12 (by omega)) (hk1.1 39 (by omega)) (hk1.1 45 (by omega)) (fun n _ _ => hk1.2.1 n (by omega)) (Nat.le_trans go_mo (Nat.le_trans iS_mo mu_mo))⟩))
  · have e1 : tl1 Y D s = ((D.1, D.2.1, va_up D.2.2.1 5 (iV Y 1 (go Y s)), D.2.2.2), iS Y 1 99 (go Y s)) := by unfold tl1; rw [if_neg (by omega), if_neg (by omega), if_neg (by omega), if_neg (by omega), if_neg (by omega), if_neg (by omega), if_neg (by omega), if_pos h1]
    have e2 : tl Y D s = ((((D.1, D.2.1, va_up D.2.2.1 5 (iV Y 1 (go Y s)), D.2.2.2), iS Y 1 99 (go Y s))).1, mu Y 4 (((D.1, D.2.1, va_up D.2.2.1 5 (iV Y 1 (go Y s)), D.2.2.2), iS Y 1 99 (go Y s))).2) := by unfold tl; rw [e1]
    rw [e2] at q
    refine aw rfl rfl ?_
    refine aw_getf rfl mg_121 rfl ?_
    refine aw rfl rfl ?_
    refine aw_getfE rfl mg_121 rfl (congrArg Value.int h11) ?_
    refine aw_ialdE rfl mg_124 rfl (by omega) (by decide) (hkd.trans (congrArg nI h1)) ?_
    refine aw_ts (z := 31) (tgt := 284) rfl (by decide) (by decide) ?_
    exact l_tn35 hs hR hne9 h19 (fun k1 hR1 hk1 ok1 => q k1 hR1 (hk1.kp (by decide)) (hk1.sd hs (by show 1 * sd ≤ sd; omega) (by show sd + 1 ≤ 1 * sd + 1; omega)) (fun w => by
          obtain ⟨a1, a2, a3, a4, a5, a6⟩ := dA
          refine ⟨b, cn, ⟨(congrFun (hk1.2.1 25 (by decide)) sd).trans a1, (congrFun (hk1.2.1 34 (by decide)) sd).trans a2, ok1 w, (congrFun (hk1.2.1 36 (by decide)) sd).trans a4, fun i hi => (congrFun (hk1.2.1 32 (by decide)) _).trans (a5 i hi), fun i hi => (congrFun (hk1.2.1 33 (by decide)) _).trans (a6 i hi)⟩, dB.cg (hk1.1 20 (by omega)) (fun n _ _ => hk1.2.1 n (by omega)) (by rw [hk1.2.2.2]), dR.cg (fun n _ _ => hk1.2.1 n (by omega)), dW.cg (hk1.1 12 (by omega)) (hk1.1 39 (by omega)) (hk1.1 45 (by omega)) (fun n _ _ => hk1.2.1 n (by omega)) (Nat.le_trans go_mo (Nat.le_trans iS_mo mu_mo))⟩))
  · have e1 : tl1 Y D s = ((D.1, D.2.1, va_up D.2.2.1 6 (iV Y 0 (go Y s)), D.2.2.2), iS Y 0 9999 (go Y s)) := by unfold tl1; rw [if_neg (by omega), if_neg (by omega), if_neg (by omega), if_neg (by omega), if_neg (by omega), if_neg (by omega), if_neg (by omega), if_neg (by omega), if_pos h1]
    have e2 : tl Y D s = ((((D.1, D.2.1, va_up D.2.2.1 6 (iV Y 0 (go Y s)), D.2.2.2), iS Y 0 9999 (go Y s))).1, mu Y 4 (((D.1, D.2.1, va_up D.2.2.1 6 (iV Y 0 (go Y s)), D.2.2.2), iS Y 0 9999 (go Y s))).2) := by unfold tl; rw [e1]
    rw [e2] at q
    refine aw rfl rfl ?_
    refine aw_getf rfl mg_121 rfl ?_
    refine aw rfl rfl ?_
    refine aw_getfE rfl mg_121 rfl (congrArg Value.int h11) ?_
    refine aw_ialdE rfl mg_124 rfl (by omega) (by decide) (hkd.trans (congrArg nI h1)) ?_
    refine aw_ts (z := 32) (tgt := 312) rfl (by decide) (by decide) ?_
    exact l_tn36 hs hR hne9 h19 (fun k1 hR1 hk1 ok1 => q k1 hR1 (hk1.kp (by decide)) (hk1.sd hs (by show 1 * sd ≤ sd; omega) (by show sd + 1 ≤ 1 * sd + 1; omega)) (fun w => by
          obtain ⟨a1, a2, a3, a4, a5, a6⟩ := dA
          refine ⟨b, cn, ⟨(congrFun (hk1.2.1 25 (by decide)) sd).trans a1, (congrFun (hk1.2.1 34 (by decide)) sd).trans a2, (congrFun (hk1.2.1 35 (by decide)) sd).trans a3, ok1 w, fun i hi => (congrFun (hk1.2.1 32 (by decide)) _).trans (a5 i hi), fun i hi => (congrFun (hk1.2.1 33 (by decide)) _).trans (a6 i hi)⟩, dB.cg (hk1.1 20 (by omega)) (fun n _ _ => hk1.2.1 n (by omega)) (by rw [hk1.2.2.2]), dR.cg (fun n _ _ => hk1.2.1 n (by omega)), dW.cg (hk1.1 12 (by omega)) (hk1.1 39 (by omega)) (hk1.1 45 (by omega)) (fun n _ _ => hk1.2.1 n (by omega)) (Nat.le_trans go_mo (Nat.le_trans iS_mo mu_mo))⟩))
  · refine aw rfl rfl ?_
    refine aw_getf rfl mg_121 rfl ?_
    refine aw rfl rfl ?_
    refine aw_getfE rfl mg_121 rfl (congrArg Value.int h11) ?_
    refine aw_ialdE rfl mg_124 rfl (by omega) (by decide) hkd ?_
    refine aw_ts (tgt := 341) rfl rfl (am_tg_out (by rw [nI_toInt (by omega)]; omega)) ?_
    exact h1.elim (fun z => hA (by omega) (by omega)) hB
end C1
