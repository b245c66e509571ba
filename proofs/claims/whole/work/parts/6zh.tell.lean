/-! ===== tells: lemmas ===== -/
theorem go_mo {Y : Tk} {s : Ps} : s.1 ≤ (go Y s).1 := by unfold go; split <;> (try split) <;> simp
theorem fl_mo {Y : Tk} {c : Nat} {s : Ps} : s.1 ≤ (fl Y c s).1 := by unfold fl; split <;> simp
theorem wr_mo {c p : Nat} {s : Ps} : s.1 ≤ (wr c p s).1 := Nat.le_of_eq wr_0.2.symm
theorem mu_mo {Y : Tk} {k : Nat} {s : Ps} : s.1 ≤ (mu Y k s).1 := by unfold mu; split <;> first | exact fl_mo | exact go_mo
theorem iS_mo {Y : Tk} {lo hi : Nat} {s : Ps} : s.1 ≤ (iS Y lo hi s).1 := by
  unfold iS
  split
  · exact fl_mo
  · refine Nat.le_trans ?_ go_mo
    split
    · exact wr_mo
    · exact Nat.le_refl _
theorem otc_mo {Y : Tk} {s : Ps} : s.1 ≤ (otc Y s).2.1 := by
  have hb : ∀ (b : Bool) (x : Ps), x.1 ≤ (bif b then go Y x else x).1 := by intro b x; cases b <;> first | exact Nat.le_refl _ | exact go_mo
  have hc : ∀ (b : Bool) (x : Ps), x.1 ≤ (bif b then iS Y 0 2 x else x).1 := by intro b x; cases b <;> first | exact Nat.le_refl _ | exact iS_mo
  exact Nat.le_trans iS_mo (Nat.le_trans mu_mo (Nat.le_trans iS_mo (Nat.le_trans (hb _ _) (Nat.le_trans iS_mo (Nat.le_trans (hb _ _) (hc _ _))))))
theorem ots_mo {Y : Tk} : ∀ (n : Nat) (s : Ps), s.1 ≤ (ots Y n s).2.1 := by
  intro n
  induction n with
  | zero => intro s; rw [ots]; split <;> first | exact fl_mo | exact Nat.le_refl _
  | succ n ih => intro s; rw [ots]; split <;> first | exact Nat.le_trans otc_mo (ih _) | exact Nat.le_refl _
theorem spS_mo {Y : Tk} {s : Ps} : s.1 ≤ (spS Y s).1 := Nat.le_trans go_mo (Nat.le_trans iS_mo (Nat.le_trans iS_mo iS_mo))
theorem rwS_mo {Y : Tk} {r w : Nat} {s : Ps} : s.1 ≤ (rwS Y r w s).1 := by
  unfold rwS
  split
  · exact Nat.le_trans go_mo (Nat.le_trans mu_mo wr_mo)
  · exact Nat.le_trans go_mo mu_mo
theorem kk1_mo {Y : Tk} {tw : Bool} {s : Ps} : s.1 ≤ (kk1 Y tw s).1 := by
  unfold kk1
  cases tw with
  | true => exact Nat.le_trans go_mo (Nat.le_trans mu_mo wr_mo)
  | false => exact Nat.le_trans go_mo mu_mo
theorem kkS_mo {Y : Tk} {tw : Bool} {s : Ps} : s.1 ≤ (kkS Y tw s).1 := by
  unfold kkS
  split
  · exact Nat.le_trans kk1_mo (ots_mo _ _)
  · exact Nat.le_trans kk1_mo (Nat.le_trans (ots_mo _ _) wr_mo)
theorem kkS_f {Y : Tk} {tw : Bool} {s : Ps} (h : ¬ (mu Y 1 (go Y s)).2.1.1 = 0) : kkS Y tw s = mu Y 1 (go Y s) := by
  have e1 : kk1 Y tw s = mu Y 1 (go Y s) := by unfold kk1; cases tw <;> first | rfl | exact wr_f h
  unfold kkS
  rw [e1, ots_f h]
  split
  · rfl
  · exact wr_f h
theorem mu_g {Y : Tk} {s : Ps} (h : ¬ (go Y s).2.1.1 = 0 ∨ ¬ Y.1 (go Y s).1 = 1) : ¬ (mu Y 1 (go Y s)).2.1.1 = 0 := fun w => by
  obtain ⟨m1, m2, _⟩ := mu_1 w
  exact h.elim (fun z => z m1) (fun z => z m2)
theorem rwS_cg {Y : Tk} {r w w' : Nat} {s : Ps} (h : r = 0 ∨ w = w') : rwS Y r w s = rwS Y r w' s := by
  have e : ∀ l, rwW r w l = rwW r w' l := by
    intro l
    unfold rwW
    split
    · rfl
    · rename_i hr; exact h.elim (fun z => absurd z hr) id
  unfold rwS
  rw [e]
theorem gA {α : Type} {l : List α} {x d : α} {j : Nat} (h : j < l.length) : (l ++ [x]).getD j d = l.getD j d := by
  rw [List.getD_eq_getElem?_getD, List.getD_eq_getElem?_getD, List.getElem?_append_left h]
theorem gB {α : Type} {l : List α} {x d : α} : (l ++ [x]).getD l.length d = x := by
  rw [List.getD_eq_getElem?_getD, List.getElem?_append_right (Nat.le_refl _), Nat.sub_self]
  rfl
theorem tmb1 : ∀ n, n < 8 → ∀ a, a < 3 → tmS (tmC n a) a / 2 ^ a % 2 = 1 := by decide
theorem tmb2 : ∀ n, n < 8 → ∀ a, a < 3 → ∀ i, i < 3 → ¬ i = a → tmS (tmC n a) a / 2 ^ i % 2 = n / 2 ^ i % 2 ∧ tmC n a / 2 ^ i % 2 = n / 2 ^ i % 2 := by decide
theorem gapL {C E : List Int32} {j : Nat} (h : j < C.length) : (C ++ E).getD j 0 = C.getD j 0 := by
  rw [List.getD_eq_getElem?_getD, List.getD_eq_getElem?_getD, List.getElem?_append_left h]
theorem gapR {C E : List Int32} {j : Nat} : (C ++ E).getD (C.length + j) 0 = E.getD j 0 := by
  rw [List.getD_eq_getElem?_getD, List.getD_eq_getElem?_getD, List.getElem?_append_right (Nat.le_add_right _ _), Nat.add_sub_cancel_left]
/-- a law told -/
theorem CWl.law {T T' : Sd} {u u' : Ua} {C C' : List Int32} {W : Nat → Lw} {w : Lw} {a : Nat} {l' : List Nat} (h : CWl T u C W) (ha : a < 3) (hw : lwG w) (hL : LA T' u' C' l') (hC : C' = C ++ lcode C.length w) (h8 : T'.1 8 = (if usL w then tmS (tmC (T.1 8) a) a else tmC (T.1 8) a)) (h9 : T'.2 9 = upd (T.2 9) a (nI C.length)) : CWl T' u' C' (va_up W a w) := by
  obtain ⟨_, a2, a3⟩ := h
  have hl8 : T'.1 8 < 8 := by
    rw [h8]
    have := tmC_lt _ a2 a ha
    split
    · exact tmS_lt _ this a ha
    · exact this
  refine ⟨⟨hL.1, hL.2.1, hL.2.2.1⟩, hl8, fun i hi => ?_⟩
  by_cases e : i = a
  · subst e
    rw [vu_at, h9, upd_at, hC]
    refine Or.inr ⟨hw, C.length, rfl, by rw [List.length_append]; exact Nat.le_refl _, fun j hj => gapR, fun hu => ?_⟩
    rw [h8, if_pos hu]
    exact tmb1 _ a2 i hi
  · rw [vu_ot e, h9, upd_ne e, hC]
    rcases a3 i hi with z | ⟨z1, b, z2, z3, z4, z5⟩
    · exact Or.inl z
    · refine Or.inr ⟨z1, b, z2, by rw [List.length_append]; omega, fun j hj => by rw [gapL (by omega)]; exact z4 j hj, fun hu => ?_⟩
      have t := tmb2 _ a2 a ha i hi e
      rw [h8]
      split
      · rw [t.1]; exact z5 hu
      · rw [t.2]; exact z5 hu
theorem lwL_ok {Y : Tk} (hk : ∀ i, kOK (Y.1 i)) : ∀ (n : Nat) (s : Ps), s.1 ≤ 400 → (lwL Y n s).2.2.1.1 = 0 → lwG (lwL Y n s).1 := by
  have h4 : ∀ s : Ps, s.1 ≤ 400 → (go Y s).1 ≤ 400 := fun s h => go_le h
  have hm : ∀ k (s : Ps), s.1 ≤ 400 → (mu Y k s).1 ≤ 400 := fun k s h => by
    unfold mu
    split
    · unfold fl; split <;> exact h
    · exact go_le h
  have hx : ∀ s : Ps, s.1 ≤ 400 → (xp Y s).2.2.1.1 = 0 → (xp Y s).2.1 ≤ 400 := fun s h h0 => (xp_ok (xp_0 h0) h hk h0).2.2.1
  intro n
  induction n with
  | zero =>
    intro s hs h0
    rw [lwL] at h0 ⊢
    split at h0
    · exact absurd h0 (fl_0 (by decide))
    · rename_i hn
      rw [if_neg hn]
      exact ⟨(xp_ok (xp_0 h0) hs hk h0).1, rfl⟩
  | succ n ih =>
    intro s hs h0
    rw [lwL] at h0 ⊢
    split at h0
    · rename_i hn
      rw [if_pos hn]
      have hB : (lwB Y s).2.2.1.1 = 0 := Decidable.of_not_not (fun w => by
        have h0 : (lwL Y n (lwB Y s).2).2.2.1.1 = 0 := h0
        rw [lwL_f w] at h0
        exact w h0)
      have hB0 := hB
      unfold lwB at hB
      have m3 := (mu_1 hB).1
      have x3 := xp_0 m3
      have m2 := (mu_1 x3).1
      have x2 := xp_0 m2
      have m1 := (mu_1 x2).1
      have x1 := xp_0 m1
      have l1 := h4 s hs
      have l2 := hx _ l1 m1
      have l3 := hm 13 _ l2
      have l4 := hx _ l3 m2
      have l5 := hm 34 _ l4
      have l6 := hx _ l5 m3
      have l7 := hm 35 _ l6
      exact ⟨(xp_ok x1 l1 hk m1).1, (xp_ok x2 l3 hk m2).1, (xp_ok x3 l5 hk m3).1, ih _ l7 h0⟩
    · rename_i hn
      rw [if_neg hn]
      exact ⟨(xp_ok (xp_0 h0) hs hk h0).1, rfl⟩
theorem lwA_ok {Y : Tk} (hk : ∀ i, kOK (Y.1 i)) {s : Ps} (hs : s.1 ≤ 400) (h0 : (lwA Y s).2.2.1.1 = 0) : lwG (lwA Y s).1 := by
  unfold lwA at *
  refine lwL_ok hk 4 _ ?_ h0
  have h1 := go_le (Y := Y) hs
  unfold mu
  split
  · unfold fl; split <;> exact h1
  · exact go_le h1
section C1
variable {z : Bool} {g : am_H} {T : Sd} {u : Ua} {X : Sd × Ua} {K : Ck} {rf : Nat → Nat}
variable {Y : Tk} {s : Ps}
theorem c_setN {Q : Option Value → am_H → Prop} (hR : RS Y K s) (hf : s.2.1.1 = 0) (h1 : Y.1 s.1 < 20) (q : ∀ K', RS Y K' (fl Y 1 s) → KQ K K' → Q none (cz z g T u X K' rf)) : AC am_P 2 45 66 [.ref 40] (cz z g T u X K rf) Q := by
  refine AC.of (ls := [_]) rfl ?_
  have ht := (hR.2.2.2.2.1 hf).2.1
  refine aw rfl rfl ?_
  refine aw_getf rfl zg_40 rfl ?_
  refine aw_c (v := nI 2) rfl (by decide) ?_
  refine aw_ine rfl (fun c5 => ?_) (fun c5 => absurd ((tk_wd ht).mp c5) (by omega))
  refine aw_c (v := -1) rfl (by decide) ?_
  refine aw_ts (z := -1) (tgt := 155) rfl (by decide) (by decide) ?_
  refine aw rfl rfl ?_
  refine aw_c (v := nI 1) rfl (by decide) ?_
  refine aw_cv (d1 := 0) (L1 := 0) rfl rfl zg_40 rfl rfl (by decide) (by decide) (Nat.le_of_ble_eq_true rfl) (c_X4_fail hR (by decide) (fun K1 hR1 hK1 => ?_))
  exact aw_vret rfl rfl (q K1 hR1 hK1)
theorem c_setW {Q : Option Value → am_H → Prop} (hR : RS Y K s) (hf : s.2.1.1 = 0) (h1 : 20 ≤ Y.1 s.1) (h2 : 11 ≤ wdC (Y.1 s.1 - 20)) (q : ∀ K', RS Y K' (fl Y 1 s) → KQ K K' → Q none (cz z g T u X K' rf)) : AC am_P 2 45 66 [.ref 40] (cz z g T u X K rf) Q := by
  refine AC.of (ls := [_]) rfl ?_
  have ht := (hR.2.2.2.2.1 hf).2.1
  have hk := ht.2.2.1
  have h3 : K.1 3 = nI 2 := (tk_wd ht).mpr h1
  have h5 := tk_num ht h1
  have hwl := wdC_lt (Y.1 s.1 - 20) (by unfold kOK sgK at hk; omega)
  refine aw rfl rfl ?_
  refine aw_getfE rfl zg_40 rfl (congrArg Value.int h3) ?_
  refine aw_c (v := nI 2) rfl (by decide) ?_
  refine aw_ine rfl (fun c => absurd (by decide) c) (fun _ => ?_)
  refine aw rfl rfl ?_
  refine aw_getfE rfl zg_40 rfl (congrArg Value.int h5) ?_
  refine aw rfl rfl ?_
  refine aw_ts (tgt := 155) rfl rfl (am_tg_out (Or.inr (by rw [nI_toInt (by omega)]; omega))) ?_
  refine aw rfl rfl ?_
  refine aw_c (v := nI 1) rfl (by decide) ?_
  refine aw_cv (d1 := 0) (L1 := 0) rfl rfl zg_40 rfl rfl (by decide) (by decide) (Nat.le_of_ble_eq_true rfl) (c_X4_fail hR (by decide) (fun K1 hR1 hK1 => ?_))
  exact aw_vret rfl rfl (q K1 hR1 hK1)
end C1
