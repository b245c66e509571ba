/-! ===== the reference's reader: tellOne, its spots ===== -/
section C1
variable {g : am_H} {k : Mk} {v pl : Nat → Int32} {br lo : Int32} {c ct pr pt cm bf bt : Nat → Int32}
variable {Y : Tk} {s : Ps}
variable {sd : Nat}
set_option maxRecDepth 4000 in
theorem l_sp32 {Q : Option Value → am_H → Prop} {i : Nat} (hi : i < 3) (hs : sd < 2) (hR : RM Y k s) (h19 : k.1 19 = nI sd) (q : ∀ k', RM Y k' (iS Y 0 9 s) → KNu 32 (3 * sd + i) (3 * sd + i + 1) k k' → ((iS Y 0 9 s).2.1.1 = 0 → k'.2.1 32 (3 * sd + i) = nI (iV Y 0 s)) → AW am_P 6 126 202 173 [some (.ref 121), some (.int (nI (i + 1)))] [] (mh g k' v pl br lo c ct pr pt cm bf bt) Q) : AW am_P 6 126 202 173 [some (.ref 121), some (.int (nI i))] [] (mh g k v pl br lo c ct pr pt cm bf bt) Q := by
  refine aw rfl rfl ?_
  refine aw_c (v := nI 3) rfl (by decide) ?_
  refine aw_igen rfl (fun c175 => by omega) (fun c175 => ?_)
  refine aw rfl rfl ?_
  refine aw_getf rfl mg_121 rfl ?_
  refine aw_c (v := nI 3) rfl (by decide) ?_
  refine aw rfl rfl ?_
  refine aw_getfE rfl mg_121 rfl (congrArg Value.int h19) ?_
  refine aw_muln rfl ?_
  refine aw rfl rfl ?_
  refine aw_addn rfl ?_
  refine aw rfl rfl ?_
  refine aw_c (v := nI 0) rfl (by decide) ?_
  refine aw_c (v := nI 9) rfl (by decide) ?_
  refine aw_cv (d1 := 2) (L1 := 41) rfl rfl mg_121 rfl rfl (by decide) (by decide) (Nat.le_of_ble_eq_true rfl) (c_mbd hR rfl (by decide) (by decide) (fun k2 x2 hR2 hk2 ok2 => ?_))
  refine aw_iastU rfl mg_140 rfl (by omega) (by decide) (by decide) mu_140 ?_
  refine aw_incn (c := 1) (ls' := [_, _]) rfl rfl (by decide) rfl ?_
  refine aw rfl rfl ?_
  have hU : KNu 32 (3 * sd + i) (3 * sd + i + 1) k2 (k2.1, va_up k2.2.1 32 (upd (k2.2.1 32) (3 * sd + i) x2), k2.2.2) := ⟨fun _ _ => rfl, fun n hn => vu_ot hn, fun i hi => upd_ne (by omega), rfl⟩
  refine q _ (hR2.kp (hU.kp (by decide)) rfl (fun _ _ _ => rfl)) ((KM.nu hk2).tr hU) (fun w => ?_)
  rw [← ok2 w]
  exact upd_at
set_option maxRecDepth 4000 in
theorem l_ts32 {Q : Option Value → am_H → Prop} {o1 : Option Value} (hs : sd < 2) (hR : RM Y k s) (hne : s.2.1.1 = 0 → ¬ Y.1 s.1 = 0) (h19 : k.1 19 = nI sd) (q : ∀ k', RM Y k' (mu Y 4 (spS Y s)) → KNu 32 (3 * sd) (3 * sd + 3) k k' → ((mu Y 4 (spS Y s)).2.1.1 = 0 → ∀ i, i < 3 → k'.2.1 32 (3 * sd + i) = nI (spV Y s i)) → Q none (mh g k' v pl br lo c ct pr pt cm bf bt)) : AW am_P 6 126 202 167 [some (.ref 121), o1] [] (mh g k v pl br lo c ct pr pt cm bf bt) Q := by
  refine aw rfl rfl ?_
  refine aw_cv (d1 := 1) (L1 := 21) rfl rfl mg_121 rfl rfl (by decide) (by decide) (Nat.le_of_ble_eq_true rfl) (c_X11_goesOn hR hne (fun k1 hR1 hk1 => ?_))
  refine aw_c (v := nI 0) rfl (by decide) ?_
  refine aw_ist (ls' := [_, _]) rfl rfl ?_
  have h191 : k1.1 19 = nI sd := by rw [hk1.1 19 (by omega)]; exact h19
  refine l_sp32 (i := 0) (by decide) hs hR1 h191 (fun k2 hR2 hk2 ok2 => ?_)
  have h192 : k2.1 19 = nI sd := by rw [hk2.1 19 (by omega)]; exact h191
  refine l_sp32 (i := 1) (by decide) hs hR2 h192 (fun k3 hR3 hk3 ok3 => ?_)
  have h193 : k3.1 19 = nI sd := by rw [hk3.1 19 (by omega)]; exact h192
  refine l_sp32 (i := 2) (by decide) hs hR3 h193 (fun k4 hR4 hk4 ok4 => ?_)
  refine aw rfl rfl ?_
  refine aw_c (v := nI 3) rfl (by decide) ?_
  refine aw_ige rfl (fun _ => ?_) (fun c => absurd (by decide) c)
  refine aw rfl rfl ?_
  refine aw_c (v := nI 4) rfl (by decide) ?_
  refine aw_cv (d1 := 2) (L1 := 41) rfl rfl mg_121 rfl rfl (by decide) (by decide) (Nat.le_of_ble_eq_true rfl) (c_mmu hR4 rfl (by decide) (fun k5 hR5 hk5 => ?_))
  refine aw rfl rfl ?_
  have hw : ∀ {a b : Mk} {lo hi : Nat}, KNu 32 lo hi a b → 3 * sd ≤ lo → hi ≤ 3 * sd + 3 → KNu 32 (3 * sd) (3 * sd + 3) a b := fun h h1 h2 => ⟨h.1, h.2.1, fun i a => h.2.2.1 i (by omega), h.2.2.2⟩
  refine aw_vret rfl rfl (q k5 hR5 (((((KM.nu hk1).tr (hw hk2 (by omega) (by omega))).tr (hw hk3 (by omega) (by omega))).tr (hw hk4 (by omega) (by omega))).tr (KM.nu hk5)) (fun w => ?_))
  have w3 : (iS Y 0 9 (iS Y 0 9 (iS Y 0 9 (go Y s)))).2.1.1 = 0 := Decidable.of_not_not (fun z => by
    have e : mu Y 4 (spS Y s) = spS Y s := mu_f z
    rw [e] at w; exact z w)
  have w2 : (iS Y 0 9 (iS Y 0 9 (go Y s))).2.1.1 = 0 := Decidable.of_not_not (fun z => by rw [iS_f z] at w3; exact z w3)
  have w1 : (iS Y 0 9 (go Y s)).2.1.1 = 0 := Decidable.of_not_not (fun z => by rw [iS_f z] at w2; exact z w2)
  intro i hi
  rw [hk5.2]
  have hh : i = 0 ∨ i = 1 ∨ i = 2 := by omega
  rcases hh with rfl | rfl | rfl
  · rw [hk4.2.2.1 _ (by omega), hk3.2.2.1 _ (by omega)]; exact ok2 w1
  · rw [hk4.2.2.1 _ (by omega)]; exact ok3 w2
  · exact ok4 w3
set_option maxRecDepth 4000 in
theorem l_sp33 {Q : Option Value → am_H → Prop} {i : Nat} (hi : i < 3) (hs : sd < 2) (hR : RM Y k s) (h19 : k.1 19 = nI sd) (q : ∀ k', RM Y k' (iS Y 0 9 s) → KNu 33 (3 * sd + i) (3 * sd + i + 1) k k' → ((iS Y 0 9 s).2.1.1 = 0 → k'.2.1 33 (3 * sd + i) = nI (iV Y 0 s)) → AW am_P 6 126 202 218 [some (.ref 121), some (.int (nI (i + 1)))] [] (mh g k' v pl br lo c ct pr pt cm bf bt) Q) : AW am_P 6 126 202 218 [some (.ref 121), some (.int (nI i))] [] (mh g k v pl br lo c ct pr pt cm bf bt) Q := by
  refine aw rfl rfl ?_
  refine aw_c (v := nI 3) rfl (by decide) ?_
  refine aw_igen rfl (fun c220 => by omega) (fun c220 => ?_)
  refine aw rfl rfl ?_
  refine aw_getf rfl mg_121 rfl ?_
  refine aw_c (v := nI 3) rfl (by decide) ?_
  refine aw rfl rfl ?_
  refine aw_getfE rfl mg_121 rfl (congrArg Value.int h19) ?_
  refine aw_muln rfl ?_
  refine aw rfl rfl ?_
  refine aw_addn rfl ?_
  refine aw rfl rfl ?_
  refine aw_c (v := nI 0) rfl (by decide) ?_
  refine aw_c (v := nI 9) rfl (by decide) ?_
  refine aw_cv (d1 := 2) (L1 := 41) rfl rfl mg_121 rfl rfl (by decide) (by decide) (Nat.le_of_ble_eq_true rfl) (c_mbd hR rfl (by decide) (by decide) (fun k2 x2 hR2 hk2 ok2 => ?_))
  refine aw_iastU rfl mg_141 rfl (by omega) (by decide) (by decide) mu_141 ?_
  refine aw_incn (c := 1) (ls' := [_, _]) rfl rfl (by decide) rfl ?_
  refine aw rfl rfl ?_
  have hU : KNu 33 (3 * sd + i) (3 * sd + i + 1) k2 (k2.1, va_up k2.2.1 33 (upd (k2.2.1 33) (3 * sd + i) x2), k2.2.2) := ⟨fun _ _ => rfl, fun n hn => vu_ot hn, fun i hi => upd_ne (by omega), rfl⟩
  refine q _ (hR2.kp (hU.kp (by decide)) rfl (fun _ _ _ => rfl)) ((KM.nu hk2).tr hU) (fun w => ?_)
  rw [← ok2 w]
  exact upd_at
set_option maxRecDepth 4000 in
theorem l_ts33 {Q : Option Value → am_H → Prop} {o1 : Option Value} (hs : sd < 2) (hR : RM Y k s) (hne : s.2.1.1 = 0 → ¬ Y.1 s.1 = 0) (h19 : k.1 19 = nI sd) (q : ∀ k', RM Y k' (mu Y 4 (spS Y s)) → KNu 33 (3 * sd) (3 * sd + 3) k k' → ((mu Y 4 (spS Y s)).2.1.1 = 0 → ∀ i, i < 3 → k'.2.1 33 (3 * sd + i) = nI (spV Y s i)) → Q none (mh g k' v pl br lo c ct pr pt cm bf bt)) : AW am_P 6 126 202 212 [some (.ref 121), o1] [] (mh g k v pl br lo c ct pr pt cm bf bt) Q := by
  refine aw rfl rfl ?_
  refine aw_cv (d1 := 1) (L1 := 21) rfl rfl mg_121 rfl rfl (by decide) (by decide) (Nat.le_of_ble_eq_true rfl) (c_X11_goesOn hR hne (fun k1 hR1 hk1 => ?_))
  refine aw_c (v := nI 0) rfl (by decide) ?_
  refine aw_ist (ls' := [_, _]) rfl rfl ?_
  have h191 : k1.1 19 = nI sd := by rw [hk1.1 19 (by omega)]; exact h19
  refine l_sp33 (i := 0) (by decide) hs hR1 h191 (fun k2 hR2 hk2 ok2 => ?_)
  have h192 : k2.1 19 = nI sd := by rw [hk2.1 19 (by omega)]; exact h191
  refine l_sp33 (i := 1) (by decide) hs hR2 h192 (fun k3 hR3 hk3 ok3 => ?_)
  have h193 : k3.1 19 = nI sd := by rw [hk3.1 19 (by omega)]; exact h192
  refine l_sp33 (i := 2) (by decide) hs hR3 h193 (fun k4 hR4 hk4 ok4 => ?_)
  refine aw rfl rfl ?_
  refine aw_c (v := nI 3) rfl (by decide) ?_
  refine aw_ige rfl (fun _ => ?_) (fun c => absurd (by decide) c)
  refine aw rfl rfl ?_
  refine aw_c (v := nI 4) rfl (by decide) ?_
  refine aw_cv (d1 := 2) (L1 := 41) rfl rfl mg_121 rfl rfl (by decide) (by decide) (Nat.le_of_ble_eq_true rfl) (c_mmu hR4 rfl (by decide) (fun k5 hR5 hk5 => ?_))
  refine aw rfl rfl ?_
  have hw : ∀ {a b : Mk} {lo hi : Nat}, KNu 33 lo hi a b → 3 * sd ≤ lo → hi ≤ 3 * sd + 3 → KNu 33 (3 * sd) (3 * sd + 3) a b := fun h h1 h2 => ⟨h.1, h.2.1, fun i a => h.2.2.1 i (by omega), h.2.2.2⟩
  refine aw_vret rfl rfl (q k5 hR5 (((((KM.nu hk1).tr (hw hk2 (by omega) (by omega))).tr (hw hk3 (by omega) (by omega))).tr (hw hk4 (by omega) (by omega))).tr (KM.nu hk5)) (fun w => ?_))
  have w3 : (iS Y 0 9 (iS Y 0 9 (iS Y 0 9 (go Y s)))).2.1.1 = 0 := Decidable.of_not_not (fun z => by
    have e : mu Y 4 (spS Y s) = spS Y s := mu_f z
    rw [e] at w; exact z w)
  have w2 : (iS Y 0 9 (iS Y 0 9 (go Y s))).2.1.1 = 0 := Decidable.of_not_not (fun z => by rw [iS_f z] at w3; exact z w3)
  have w1 : (iS Y 0 9 (go Y s)).2.1.1 = 0 := Decidable.of_not_not (fun z => by rw [iS_f z] at w2; exact z w2)
  intro i hi
  rw [hk5.2]
  have hh : i = 0 ∨ i = 1 ∨ i = 2 := by omega
  rcases hh with rfl | rfl | rfl
  · rw [hk4.2.2.1 _ (by omega), hk3.2.2.1 _ (by omega)]; exact ok2 w1
  · rw [hk4.2.2.1 _ (by omega)]; exact ok3 w2
  · exact ok4 w3
end C1
