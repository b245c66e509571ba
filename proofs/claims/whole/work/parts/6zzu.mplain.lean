/-! ===== a text's tells: where they go on, late faults, rows; the reference: plain, begins ===== -/
section B1
variable {Y : Tk} {s : Ps} {D : Dt}
theorem rwS_m {r w : Nat} (h : (rwS Y r w s).2.2.1 = 0) : s.2.2.1 = 0 := by
  unfold rwS at h
  split at h
  · have h := wr_m (by decide) h
    rw [mu_l, go_l] at h
    exact h
  · rw [mu_l, go_l] at h
    exact h
theorem kkS_m {tw : Bool} (h : (kkS Y tw s).2.2.1 = 0) : s.2.2.1 = 0 := by
  have w1 : (ots Y 6 (kk1 Y tw s)).2.2.2.1 = 0 := by
    unfold kkS at h
    split at h
    · exact h
    · exact wr_m (by decide) h
  have w2 := ots_m _ _ w1
  unfold kk1 at w2
  cases tw with
  | true => have w2 := wr_m (by decide) w2; rw [mu_l, go_l] at w2; exact w2
  | false => have w2 : (mu Y 1 (go Y s)).2.2.1 = 0 := w2; rw [mu_l, go_l] at w2; exact w2
theorem spS_m (h : (spS Y s).2.2.1 = 0) : s.2.2.1 = 0 := by
  have w := iS_m (iS_m (iS_m h))
  rw [go_l] at w
  exact w
theorem ig_m {lo hi : Nat} (h : (iS Y lo hi (go Y s)).2.2.1 = 0) : s.2.2.1 = 0 := by
  have w := iS_m h
  rw [go_l] at w
  exact w
theorem tl1_mm : s.1 ≤ (tl1 Y D s).2.1 ∧ ((tl1 Y D s).2.2.2.1 = 0 → s.2.2.1 = 0) := by
  have hfl : ∀ c, s.1 ≤ (fl Y c s).1 ∧ ((fl Y c s).2.2.1 = 0 → s.2.2.1 = 0) := fun c => ⟨fl_mo, fun h => by rw [fl_l] at h; exact h⟩
  have hig : ∀ lo hi, s.1 ≤ (iS Y lo hi (go Y s)).1 ∧ ((iS Y lo hi (go Y s)).2.2.1 = 0 → s.2.2.1 = 0) := fun lo hi => ⟨Nat.le_trans go_mo iS_mo, ig_m⟩
  unfold tl1
  split
  · split
    · exact hfl 2
    · exact ⟨rwS_mo, rwS_m⟩
  · split
    · split
      · exact hfl 2
      · exact ⟨kkS_mo, kkS_m⟩
    · split
      · refine ⟨Nat.le_trans go_mo (Nat.le_trans mu_mo (lwL_mo 4 _)), fun h => ?_⟩
        have h : (lwA Y s).2.2.2.1 = 0 := h
        rw [lwA_l] at h
        exact h
      · split
        · exact ⟨spS_mo, spS_m⟩
        · split
          · exact ⟨spS_mo, spS_m⟩
          · split
            · exact hig 1 3
            · split
              · exact hig 0 2
              · split
                · exact hig 1 99
                · split
                  · exact hig 0 9999
                  · exact hfl 1
theorem tl_mm (h0 : (tl Y D s).2.2.1.1 = 0) : s.1 + 1 ≤ (tl Y D s).2.1 ∧ ((tl Y D s).2.2.2.1 = 0 → s.2.2.1 = 0) := by
  have h0 : (mu Y 4 (tl1 Y D s).2).2.1.1 = 0 := h0
  obtain ⟨m1, m2, m3, m4⟩ := mu_1 h0
  have h := tl1_mm (Y := Y) (s := s) (D := D)
  refine ⟨?_, fun hl => ?_⟩
  · show s.1 + 1 ≤ (mu Y 4 (tl1 Y D s).2).1
    rw [m4]
    exact Nat.succ_le_succ h.1
  · have hl : (mu Y 4 (tl1 Y D s).2).2.2.1 = 0 := hl
    rw [mu_l] at hl
    exact h.2 hl
/-- all rows are as long as the first -/
def rwE (l : List (List Nat)) : Prop := ∀ r ∈ l, r.length = (l.headD []).length
theorem tl_E (h0 : (tl Y D s).2.2.1.1 = 0) (hE : s.2.2.1 = 0 → rwE D.1) (hl : (tl Y D s).2.2.2.1 = 0) : rwE (tl Y D s).1.1 := by
  have hE := hE ((tl_mm h0).2 hl)
  have h0 : (mu Y 4 (tl1 Y D s).2).2.1.1 = 0 := h0
  have hl : (mu Y 4 (tl1 Y D s).2).2.2.1 = 0 := hl
  rw [mu_l] at hl
  have h0 := (mu_1 h0).1
  show rwE (tl1 Y D s).1.1
  unfold tl1 at h0 hl ⊢
  split
  · rename_i h1
    rw [if_pos h1] at h0 hl
    split
    · rename_i h2
      rw [if_pos h2] at h0
      exact absurd h0 (fl_0 (by decide))
    · rename_i h2
      rw [if_neg h2] at h0 hl
      have h0 : (rwS Y D.1.length (D.1.headD []).length s).2.1.1 = 0 := h0
      have hl : (rwS Y D.1.length (D.1.headD []).length s).2.2.1 = 0 := hl
      show rwE (D.1 ++ [Y.2.2.2 (go Y s).1])
      have hmu : (mu Y 1 (go Y s)).2.1.1 = 0 := by
        unfold rwS at h0
        split at h0
        · rw [wr_0.1] at h0; exact h0
        · exact h0
      have hx : ¬ rwX (rwW D.1.length (D.1.headD []).length (Y.2.2.2 (go Y s).1)) (Y.2.2.2 (go Y s).1) = true := fun w => by
        unfold rwS at hl
        rw [if_pos w] at hl
        exact absurd hl (wr_l hmu (by decide))
      have hx2 : (Y.2.2.2 (go Y s).1).length = rwW D.1.length (D.1.headD []).length (Y.2.2.2 (go Y s).1) := by
        refine Decidable.of_not_not (fun w => hx ?_)
        unfold rwX
        rw [decide_eq_true w]
        rfl
      intro r hr
      cases hD : D.1 with
      | nil =>
        rw [hD] at hr
        have hr : r ∈ [Y.2.2.2 (go Y s).1] := hr
        rw [List.mem_singleton.mp hr]
        rfl
      | cons y l =>
        rw [hD] at hr hx2 hE
        show r.length = y.length
        rcases List.mem_append.mp hr with hr | hr
        · exact hE r hr
        · rw [List.mem_singleton.mp hr, hx2]
          exact if_neg (Nat.succ_ne_zero _)
  · split
    · split <;> exact hE
    · repeat' split
      all_goals exact hE
end B1
/-- what plain leaves -/
def KPl (sd : Nat) (k k' : Mk) : Prop := k'.1 = k.1 ∧ k'.2.2 = k.2.2 ∧ (∀ n, n < 22 ∨ 38 < n → k'.2.1 n = k.2.1 n) ∧ SDf (1 - sd) k k'
theorem KPl.tr {sd : Nat} {k k1 k2 : Mk} (h : KPl sd k k1) (h1 : KPl sd k1 k2) : KPl sd k k2 := ⟨h1.1.trans h.1, h1.2.1.trans h.2.1, fun n hn => (h1.2.2.1 n hn).trans (h.2.2.1 n hn), h.2.2.2.tr h1.2.2.2⟩
theorem KPl.up {sd j i : Nat} {x : Int32} {k : Mk} (hs : sd < 2) (hj : 22 ≤ j ∧ j ≤ 38) (hi : wd9 j * sd ≤ i ∧ i < wd9 j * sd + wd9 j) : KPl sd k (k.1, va_up k.2.1 j (upd (k.2.1 j) i x), k.2.2) := ⟨rfl, rfl, fun n hn => vu_ot (by omega), SDf.up hs hi⟩
def plU (y : Mk) (p : Nat) : Mk := (y.1, va_up (va_up (va_up (va_up y.2.1 32 (upd (y.2.1 32) p (nI 0))) 33 (upd (y.2.1 33) p (nI 0))) 37 (upd (y.2.1 37) p (nI 0))) 38 (upd (y.2.1 38) p (nI 0)), y.2.2)
theorem plU_a {y : Mk} {p n : Nat} (h : n = 32 ∨ n = 33 ∨ n = 37 ∨ n = 38) : (plU y p).2.1 n = upd (y.2.1 n) p (nI 0) := by
  rcases h with rfl | rfl | rfl | rfl <;> rfl
theorem plU_o {y : Mk} {p n : Nat} (h : ¬ (n = 32 ∨ n = 33 ∨ n = 37 ∨ n = 38)) : (plU y p).2.1 n = y.2.1 n := by
  show va_up (va_up (va_up (va_up y.2.1 32 _) 33 _) 37 _) 38 _ n = _
  rw [vu_ot (by omega), vu_ot (by omega), vu_ot (by omega), vu_ot (by omega)]
theorem plU_k {y : Mk} {sd j : Nat} (hs : sd < 2) (hj : j < 3) : KPl sd y (plU y (3 * sd + j)) := by
  refine ⟨rfl, rfl, fun n hn => plU_o (by omega), fun n h2 h4 i h5 h6 => ?_⟩
  by_cases h : n = 32 ∨ n = 33 ∨ n = 37 ∨ n = 38
  · rw [plU_a h]
    have hw : wd9 n = 3 := by rcases h with rfl | rfl | rfl | rfl <;> rfl
    have hn := sd_ne hs h5 h6
    rw [hw] at hn
    exact upd_ne (by omega)
  · rw [plU_o h]
section C1
variable {g : am_H} {k : Mk} {v pl : Nat → Int32} {br lo : Int32} {c ct pr pt cm bf bt : Nat → Int32}
variable {Y : Tk} {s : Ps}
variable {sd : Nat}
theorem c_X11_plain {Q : Option Value → am_H → Prop} (hs : sd < 2) (q : ∀ k', KPl sd k k' → (k'.2.1 22 sd = nI 0 ∧ k'.2.1 23 sd = nI 0 ∧ k'.2.1 25 sd = nI 1 ∧ k'.2.1 26 sd = nI 0 ∧ k'.2.1 34 sd = nI 0 ∧ k'.2.1 35 sd = nI 5 ∧ k'.2.1 36 sd = nI 0) → (∀ n, n = 32 ∨ n = 33 ∨ n = 37 ∨ n = 38 → ∀ i, i < 3 → k'.2.1 n (3 * sd + i) = nI 0) → Q none (mh g k' v pl br lo c ct pr pt cm bf bt)) : AC am_P 0 0 186 [.ref 121, .int (nI sd)] (mh g k v pl br lo c ct pr pt cm bf bt) Q := by
  refine AC.of (ls := [_, _, _]) rfl ?_
  refine aw rfl rfl ?_
  refine aw_getf rfl mg_121 rfl ?_
  refine aw rfl rfl ?_
  refine aw_c (v := nI 0) rfl (by decide) ?_
  refine aw_iastU rfl mg_130 rfl (by omega) (by decide) (by decide) mu_130 ?_
  refine aw rfl rfl ?_
  refine aw_getf rfl mg_121 rfl ?_
  refine aw rfl rfl ?_
  refine aw_c (v := nI 0) rfl (by decide) ?_
  refine aw_iastU rfl mg_131 rfl (by omega) (by decide) (by decide) mu_131 ?_
  refine aw rfl rfl ?_
  refine aw_getf rfl mg_121 rfl ?_
  refine aw rfl rfl ?_
  refine aw_c (v := nI 1) rfl (by decide) ?_
  refine aw_iastU rfl mg_133 rfl (by omega) (by decide) (by decide) mu_133 ?_
  refine aw rfl rfl ?_
  refine aw_getf rfl mg_121 rfl ?_
  refine aw rfl rfl ?_
  refine aw_c (v := nI 0) rfl (by decide) ?_
  refine aw_iastU rfl mg_134 rfl (by omega) (by decide) (by decide) mu_134 ?_
  refine aw rfl rfl ?_
  refine aw_getf rfl mg_121 rfl ?_
  refine aw rfl rfl ?_
  refine aw_c (v := nI 0) rfl (by decide) ?_
  refine aw_iastU rfl mg_142 rfl (by omega) (by decide) (by decide) mu_142 ?_
  refine aw rfl rfl ?_
  refine aw_getf rfl mg_121 rfl ?_
  refine aw rfl rfl ?_
  refine aw_c (v := nI 5) rfl (by decide) ?_
  refine aw_iastU rfl mg_143 rfl (by omega) (by decide) (by decide) mu_143 ?_
  refine aw rfl rfl ?_
  refine aw_getf rfl mg_121 rfl ?_
  refine aw rfl rfl ?_
  refine aw_c (v := nI 0) rfl (by decide) ?_
  refine aw_iastU rfl mg_144 rfl (by omega) (by decide) (by decide) mu_144 ?_
  refine aw_c (v := nI 0) rfl (by decide) ?_
  refine aw_ist (ls' := [_, _, _]) rfl rfl ?_
  obtain ⟨k1, hk1⟩ : ∃ k1 : Mk, k1 = ((k.1, va_up (va_up (va_up (va_up (va_up (va_up (va_up (k.2.1) 22 (upd (k.2.1 22) sd (nI 0))) 23 (upd (k.2.1 23) sd (nI 0))) 25 (upd (k.2.1 25) sd (nI 1))) 26 (upd (k.2.1 26) sd (nI 0))) 34 (upd (k.2.1 34) sd (nI 0))) 35 (upd (k.2.1 35) sd (nI 5))) 36 (upd (k.2.1 36) sd (nI 0)), k.2.2) : Mk) := ⟨_, rfl⟩
  have hv : k1.2.1 22 sd = nI 0 ∧ k1.2.1 23 sd = nI 0 ∧ k1.2.1 25 sd = nI 1 ∧ k1.2.1 26 sd = nI 0 ∧ k1.2.1 34 sd = nI 0 ∧ k1.2.1 35 sd = nI 5 ∧ k1.2.1 36 sd = nI 0 := by
    subst hk1
    exact ⟨upd_at, upd_at, upd_at, upd_at, upd_at, upd_at, upd_at⟩
  have hK1 : KPl sd k k1 := by
    subst hk1
    have hb : ∀ j, wd9 j = 1 → wd9 j * sd ≤ sd ∧ sd < wd9 j * sd + wd9 j := fun j e => by rw [e]; omega
    exact ((((((KPl.up hs (by decide) (hb 22 rfl)).tr (KPl.up hs (by decide) (hb 23 rfl))).tr (KPl.up hs (by decide) (hb 25 rfl))).tr (KPl.up hs (by decide) (hb 26 rfl))).tr (KPl.up hs (by decide) (hb 34 rfl))).tr (KPl.up hs (by decide) (hb 35 rfl))).tr (KPl.up hs (by decide) (hb 36 rfl))
  show AW am_P 0 0 186 51 [some (.ref 121), some (.int (nI sd)), some (.int (nI 0))] [] (mh g ((k.1, va_up (va_up (va_up (va_up (va_up (va_up (va_up (k.2.1) 22 (upd (k.2.1 22) sd (nI 0))) 23 (upd (k.2.1 23) sd (nI 0))) 25 (upd (k.2.1 25) sd (nI 1))) 26 (upd (k.2.1 26) sd (nI 0))) 34 (upd (k.2.1 34) sd (nI 0))) 35 (upd (k.2.1 35) sd (nI 5))) 36 (upd (k.2.1 36) sd (nI 0)), k.2.2) : Mk) v pl br lo c ct pr pt cm bf bt) Q
  rw [← hk1]
  refine aw_loop (α := Mk) (ll := fun j y => [some (.ref 121), some (.int (nI sd)), some (.int (nI j))]) (hh := fun j y => (mh g y v pl br lo c ct pr pt cm bf bt)) (I := fun j y => KPl sd k1 y ∧ (∀ n, ¬ (n = 32 ∨ n = 33 ∨ n = 37 ∨ n = 38) → y.2.1 n = k1.2.1 n) ∧ ∀ n, n = 32 ∨ n = 33 ∨ n = 37 ∨ n = 38 → ∀ i, i < j → y.2.1 n (3 * sd + i) = nI 0) (N := 3) (fun j y hj hI ih => ?_) (fun y hI => ?_) 0 k1 (Nat.zero_le _) ⟨⟨rfl, rfl, fun _ _ => rfl, SDf.rf⟩, fun _ _ => rfl, fun _ _ i hi => absurd hi (Nat.not_lt_zero i)⟩
  · skip
    refine aw rfl rfl ?_
    refine aw_c (v := nI 3) rfl (by decide) ?_
    refine aw_igen rfl (fun c53 => by omega) (fun c53 => ?_)
    refine aw rfl rfl ?_
    refine aw_getf rfl mg_121 rfl ?_
    refine aw_c (v := nI 3) rfl (by decide) ?_
    refine aw rfl rfl ?_
    refine aw_muln rfl ?_
    refine aw rfl rfl ?_
    refine aw_addn rfl ?_
    refine aw_c (v := nI 0) rfl (by decide) ?_
    refine aw_iastU rfl mg_140 rfl (by omega) (by decide) (by decide) mu_140 ?_
    refine aw rfl rfl ?_
    refine aw_getf rfl mg_121 rfl ?_
    refine aw_c (v := nI 3) rfl (by decide) ?_
    refine aw rfl rfl ?_
    refine aw_muln rfl ?_
    refine aw rfl rfl ?_
    refine aw_addn rfl ?_
    refine aw_c (v := nI 0) rfl (by decide) ?_
    refine aw_iastU rfl mg_141 rfl (by omega) (by decide) (by decide) mu_141 ?_
    refine aw rfl rfl ?_
    refine aw_getf rfl mg_121 rfl ?_
    refine aw_c (v := nI 3) rfl (by decide) ?_
    refine aw rfl rfl ?_
    refine aw_muln rfl ?_
    refine aw rfl rfl ?_
    refine aw_addn rfl ?_
    refine aw_c (v := nI 0) rfl (by decide) ?_
    refine aw_iastU rfl mg_145 rfl (by omega) (by decide) (by decide) mu_145 ?_
    refine aw rfl rfl ?_
    refine aw_getf rfl mg_121 rfl ?_
    refine aw_c (v := nI 3) rfl (by decide) ?_
    refine aw rfl rfl ?_
    refine aw_muln rfl ?_
    refine aw rfl rfl ?_
    refine aw_addn rfl ?_
    refine aw_c (v := nI 0) rfl (by decide) ?_
    refine aw_iastU rfl mg_146 rfl (by omega) (by decide) (by decide) mu_146 ?_
    refine aw_incn (c := 1) (ls' := [_, _, _]) rfl rfl (by decide) rfl ?_
    refine aw rfl rfl ?_
    refine ih (plU y (3 * sd + j)) ⟨hI.1.tr (plU_k hs hj), fun n hn => (plU_o hn).trans (hI.2.1 n hn), fun n hn i hi => ?_⟩
    rw [plU_a hn]
    by_cases e : i = j
    · subst e; exact upd_at
    · rw [upd_ne (by omega)]; exact hI.2.2 n hn i (by omega)
  · skip
    refine aw rfl rfl ?_
    refine aw_c (v := nI 3) rfl (by decide) ?_
    refine aw_igen rfl (fun c53 => ?_) (fun c53 => by omega)
    refine aw_vret rfl rfl (q y (hK1.tr hI.1) ?_ hI.2.2)
    rw [hI.2.1 22 (by omega), hI.2.1 23 (by omega), hI.2.1 25 (by omega), hI.2.1 26 (by omega), hI.2.1 34 (by omega), hI.2.1 35 (by omega), hI.2.1 36 (by omega)]
    exact hv
theorem c_X11_begins {Q : Option Value → am_H → Prop} {lv : Nat} (hl : lv < 2) (h18 : k.1 18 = nI lv) (q : ∀ k', (k'.1 = k.1 ∧ k'.2.2 = k.2.2 ∧ ∀ n, ¬ n = 54 → k'.2.1 n = k.2.1 n) → (∀ j, j < 3 → k'.2.1 54 j = k.2.1 32 (3 * lv + j)) → k'.2.1 54 3 = k.2.1 34 lv → (∀ j, 4 ≤ j → j < 10 → k'.2.1 54 j = nI 0) → Q none (mh g k' v pl br lo c ct pr pt cm bf bt)) : AC am_P 0 0 189 [.ref 121] (mh g k v pl br lo c ct pr pt cm bf bt) Q := by
  refine AC.of (ls := [_, _]) rfl ?_
  refine aw_c (v := nI 0) rfl (by decide) ?_
  refine aw_ist (ls' := [_, _]) rfl rfl ?_
  refine aw_loop (α := Mk) (ll := fun j y => [some (.ref 121), some (.int (nI j))]) (hh := fun j y => (mh g y v pl br lo c ct pr pt cm bf bt)) (I := fun j y => (y.1 = k.1 ∧ y.2.2 = k.2.2 ∧ ∀ n, ¬ n = 54 → y.2.1 n = k.2.1 n) ∧ ∀ i, i < j → y.2.1 54 i = nI 0) (N := 10) (fun j y hj hI ih => ?_) (fun y0 hI => ?_) 0 k (Nat.zero_le _) ⟨⟨rfl, rfl, fun _ _ => rfl⟩, fun i hi => absurd hi (Nat.not_lt_zero i)⟩
  · skip
    refine aw rfl rfl ?_
    refine aw_c (v := nI 10) rfl (by decide) ?_
    refine aw_igen rfl (fun c5 => by omega) (fun c5 => ?_)
    refine aw rfl rfl ?_
    refine aw_getf rfl mg_121 rfl ?_
    refine aw rfl rfl ?_
    refine aw_c (v := nI 0) rfl (by decide) ?_
    refine aw_iastU rfl mg_158 rfl (by omega) (by decide) (by decide) mu_158 ?_
    refine aw_incn (c := 1) (ls' := [_, _]) rfl rfl (by decide) rfl ?_
    refine aw rfl rfl ?_
    refine ih (y.1, va_up y.2.1 54 (upd (y.2.1 54) j (nI 0)), y.2.2) ⟨⟨hI.1.1, hI.1.2.1, fun n hn => (vu_ot hn).trans (hI.1.2.2 n hn)⟩, fun i hi => ?_⟩
    show upd (y.2.1 54) j (nI 0) i = nI 0
    by_cases e : i = j
    · subst e; exact upd_at
    · rw [upd_ne e]; exact hI.2 i (by omega)
  · skip
    refine aw rfl rfl ?_
    refine aw_c (v := nI 10) rfl (by decide) ?_
    refine aw_igen rfl (fun c5 => ?_) (fun c5 => by omega)
    refine aw_c (v := nI 0) rfl (by decide) ?_
    refine aw_ist (ls' := [_, _]) rfl rfl ?_
    refine aw_loop (α := Mk) (ll := fun j y => [some (.ref 121), some (.int (nI j))]) (hh := fun j y => (mh g y v pl br lo c ct pr pt cm bf bt)) (I := fun j y => (y.1 = k.1 ∧ y.2.2 = k.2.2 ∧ ∀ n, ¬ n = 54 → y.2.1 n = k.2.1 n) ∧ (∀ i, i < j → y.2.1 54 i = k.2.1 32 (3 * lv + i)) ∧ ∀ i, j ≤ i → i < 10 → y.2.1 54 i = nI 0) (N := 3) (fun j y hj hI ih => ?_) (fun y hI => ?_) 0 y0 (Nat.zero_le _) ⟨hI.1, fun i hi => absurd hi (Nat.not_lt_zero i), fun i _ h9 => hI.2 i h9⟩
    · have h189 : y.1 18 = nI lv := by rw [hI.1.1]; exact h18
      refine aw rfl rfl ?_
      refine aw_c (v := nI 3) rfl (by decide) ?_
      refine aw_igen rfl (fun c25 => by omega) (fun c25 => ?_)
      refine aw rfl rfl ?_
      refine aw_getf rfl mg_121 rfl ?_
      refine aw rfl rfl ?_
      refine aw rfl rfl ?_
      refine aw_getf rfl mg_121 rfl ?_
      refine aw_c (v := nI 3) rfl (by decide) ?_
      refine aw rfl rfl ?_
      refine aw_getfE rfl mg_121 rfl (congrArg Value.int h189) ?_
      refine aw_muln rfl ?_
      refine aw rfl rfl ?_
      refine aw_addn rfl ?_
      refine aw_iald rfl mg_140 rfl (by omega) (by decide) ?_
      refine aw_iastU rfl mg_158 rfl (by omega) (by decide) (by decide) mu_158 ?_
      refine aw_incn (c := 1) (ls' := [_, _]) rfl rfl (by decide) rfl ?_
      refine aw rfl rfl ?_
      refine ih (y.1, va_up y.2.1 54 (upd (y.2.1 54) j (y.2.1 32 (3 * lv + j))), y.2.2) ⟨⟨hI.1.1, hI.1.2.1, fun n hn => (vu_ot hn).trans (hI.1.2.2 n hn)⟩, fun i hi => ?_, fun i hi h9 => ?_⟩
      · show upd (y.2.1 54) j (y.2.1 32 (3 * lv + j)) i = _
        by_cases e : i = j
        · subst e; rw [upd_at, hI.1.2.2 32 (by omega)]
        · rw [upd_ne e]; exact hI.2.1 i (by omega)
      · show upd (y.2.1 54) j (y.2.1 32 (3 * lv + j)) i = _
        rw [upd_ne (by omega)]; exact hI.2.2 i (by omega) h9
    · have h189 : y.1 18 = nI lv := by rw [hI.1.1]; exact h18
      refine aw rfl rfl ?_
      refine aw_c (v := nI 3) rfl (by decide) ?_
      refine aw_igen rfl (fun c25 => ?_) (fun c25 => by omega)
      refine aw rfl rfl ?_
      refine aw_getf rfl mg_121 rfl ?_
      refine aw_c (v := nI 3) rfl (by decide) ?_
      refine aw rfl rfl ?_
      refine aw_getf rfl mg_121 rfl ?_
      refine aw rfl rfl ?_
      refine aw_getfE rfl mg_121 rfl (congrArg Value.int h189) ?_
      refine aw_iald rfl mg_142 rfl (by omega) (by decide) ?_
      refine aw_iastU rfl mg_158 rfl (by omega) (by decide) (by decide) mu_158 ?_
      refine aw_vret rfl rfl (q (y.1, va_up y.2.1 54 (upd (y.2.1 54) 3 (y.2.1 34 lv)), y.2.2) ⟨hI.1.1, hI.1.2.1, fun n hn => (vu_ot hn).trans (hI.1.2.2 n hn)⟩ (fun j hj => ?_) ?_ (fun j h4 h9 => ?_))
      · show upd (y.2.1 54) 3 _ j = _
        rw [upd_ne (by omega)]; exact hI.2.1 j hj
      · exact (show upd (y.2.1 54) 3 (y.2.1 34 lv) 3 = y.2.1 34 lv from upd_at).trans (congrFun (hI.1.2.2 34 (by omega)) lv)
      · show upd (y.2.1 54) 3 _ j = _
        rw [upd_ne (by omega)]; exact hI.2.2 j (by omega) h9
end C1
