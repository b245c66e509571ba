/-! ===== the reference's reader: tellOne, its numbers ===== -/
def KNu (f lo hi : Nat) (k k' : Mk) : Prop := (∀ n, ¬ (n = 11 ∨ (13 ≤ n ∧ n ≤ 16)) → k'.1 n = k.1 n) ∧ (∀ n, ¬ n = f → k'.2.1 n = k.2.1 n) ∧ (∀ i, i < lo ∨ hi ≤ i → k'.2.1 f i = k.2.1 f i) ∧ k'.2.2 = k.2.2
theorem KM.nu {f lo hi : Nat} {k k' : Mk} (h : KM k k') : KNu f lo hi k k' := ⟨h.1, fun n _ => by rw [h.2], fun i _ => by rw [h.2], by rw [h.2]⟩
theorem KNu.tr {f lo hi : Nat} {k k1 k2 : Mk} (h : KNu f lo hi k k1) (h' : KNu f lo hi k1 k2) : KNu f lo hi k k2 := ⟨fun n hn => (h'.1 n hn).trans (h.1 n hn), fun n hn => (h'.2.1 n hn).trans (h.2.1 n hn), fun i a => (h'.2.2.1 i a).trans (h.2.2.1 i a), h'.2.2.2.trans h.2.2.2⟩
theorem KNu.kp {f lo hi : Nat} {k k' : Mk} (h : KNu f lo hi k k') (hf : 22 ≤ f ∧ f ≤ 48) : KP k k' := ⟨fun n hn => h.1 n (by omega), fun n hn => h.2.1 n (by omega), fun n _ => by rw [h.2.2.2]⟩
section C1
variable {g : am_H} {k : Mk} {v pl : Nat → Int32} {br lo : Int32} {c ct pr pt cm bf bt : Nat → Int32}
variable {Y : Tk} {s : Ps}
variable {sd : Nat}
set_option maxRecDepth 4000 in
theorem l_tn25 {Q : Option Value → am_H → Prop} {o1 : Option Value} (hs : sd < 2) (hR : RM Y k s) (hne : s.2.1.1 = 0 → ¬ Y.1 s.1 = 0) (h19 : k.1 19 = nI sd) (q : ∀ k', RM Y k' (mu Y 4 (iS Y 1 3 (go Y s))) → KNu 25 sd (sd + 1) k k' → ((mu Y 4 (iS Y 1 3 (go Y s))).2.1.1 = 0 → k'.2.1 25 sd = nI (iV Y 1 (go Y s))) → Q none (mh g k' v pl br lo c ct pr pt cm bf bt)) : AW am_P 6 126 202 108 [some (.ref 121), o1] [] (mh g k v pl br lo c ct pr pt cm bf bt) Q := by
  refine aw rfl rfl ?_
  refine aw_cv (d1 := 1) (L1 := 21) rfl rfl mg_121 rfl rfl (by decide) (by decide) (Nat.le_of_ble_eq_true rfl) (c_X11_goesOn hR hne (fun k1 hR1 hk1 => ?_))
  have h191 : k1.1 19 = nI sd := by rw [hk1.1 19 (by omega)]; exact h19
  refine aw rfl rfl ?_
  refine aw_getf rfl mg_121 rfl ?_
  refine aw rfl rfl ?_
  refine aw_getfE rfl mg_121 rfl (congrArg Value.int h191) ?_
  refine aw rfl rfl ?_
  refine aw_c (v := nI 1) rfl (by decide) ?_
  refine aw_c (v := nI 3) rfl (by decide) ?_
  refine aw_cv (d1 := 2) (L1 := 41) rfl rfl mg_121 rfl rfl (by decide) (by decide) (Nat.le_of_ble_eq_true rfl) (c_mbd hR1 rfl (by decide) (by decide) (fun k2 x2 hR2 hk2 ok2 => ?_))
  refine aw_iastU rfl mg_133 rfl (by omega) (by decide) (by decide) mu_133 ?_
  have hU : KNu 25 sd (sd + 1) k2 (k2.1, va_up k2.2.1 25 (upd (k2.2.1 25) sd x2), k2.2.2) := ⟨fun _ _ => rfl, fun n hn => vu_ot hn, fun i hi => upd_ne (by omega), rfl⟩
  have hR3 : RM Y (k2.1, va_up k2.2.1 25 (upd (k2.2.1 25) sd x2), k2.2.2) _ := hR2.kp (hU.kp (by decide)) rfl (fun _ _ _ => rfl)
  refine aw rfl rfl ?_
  refine aw_c (v := nI 4) rfl (by decide) ?_
  refine aw_cv (d1 := 2) (L1 := 41) rfl rfl mg_121 rfl rfl (by decide) (by decide) (Nat.le_of_ble_eq_true rfl) (c_mmu hR3 rfl (by decide) (fun k3 hR4 hk3 => ?_))
  refine aw rfl rfl ?_
  refine aw_vret rfl rfl (q k3 hR4 ((((KM.nu hk1).tr (KM.nu hk2)).tr hU).tr (KM.nu hk3)) (fun w => ?_))
  have w0 : (iS Y 1 3 (go Y s)).2.1.1 = 0 := Decidable.of_not_not (fun z => by rw [mu_f z] at w; exact z w)
  rw [hk3.2, ← ok2 w0]
  exact upd_at
set_option maxRecDepth 4000 in
theorem l_tn34 {Q : Option Value → am_H → Prop} {o1 : Option Value} (hs : sd < 2) (hR : RM Y k s) (hne : s.2.1.1 = 0 → ¬ Y.1 s.1 = 0) (h19 : k.1 19 = nI sd) (q : ∀ k', RM Y k' (mu Y 4 (iS Y 0 2 (go Y s))) → KNu 34 sd (sd + 1) k k' → ((mu Y 4 (iS Y 0 2 (go Y s))).2.1.1 = 0 → k'.2.1 34 sd = nI (iV Y 0 (go Y s))) → Q none (mh g k' v pl br lo c ct pr pt cm bf bt)) : AW am_P 6 126 202 257 [some (.ref 121), o1] [] (mh g k v pl br lo c ct pr pt cm bf bt) Q := by
  refine aw rfl rfl ?_
  refine aw_cv (d1 := 1) (L1 := 21) rfl rfl mg_121 rfl rfl (by decide) (by decide) (Nat.le_of_ble_eq_true rfl) (c_X11_goesOn hR hne (fun k1 hR1 hk1 => ?_))
  have h191 : k1.1 19 = nI sd := by rw [hk1.1 19 (by omega)]; exact h19
  refine aw rfl rfl ?_
  refine aw_getf rfl mg_121 rfl ?_
  refine aw rfl rfl ?_
  refine aw_getfE rfl mg_121 rfl (congrArg Value.int h191) ?_
  refine aw rfl rfl ?_
  refine aw_c (v := nI 0) rfl (by decide) ?_
  refine aw_c (v := nI 2) rfl (by decide) ?_
  refine aw_cv (d1 := 2) (L1 := 41) rfl rfl mg_121 rfl rfl (by decide) (by decide) (Nat.le_of_ble_eq_true rfl) (c_mbd hR1 rfl (by decide) (by decide) (fun k2 x2 hR2 hk2 ok2 => ?_))
  refine aw_iastU rfl mg_142 rfl (by omega) (by decide) (by decide) mu_142 ?_
  have hU : KNu 34 sd (sd + 1) k2 (k2.1, va_up k2.2.1 34 (upd (k2.2.1 34) sd x2), k2.2.2) := ⟨fun _ _ => rfl, fun n hn => vu_ot hn, fun i hi => upd_ne (by omega), rfl⟩
  have hR3 : RM Y (k2.1, va_up k2.2.1 34 (upd (k2.2.1 34) sd x2), k2.2.2) _ := hR2.kp (hU.kp (by decide)) rfl (fun _ _ _ => rfl)
  refine aw rfl rfl ?_
  refine aw_c (v := nI 4) rfl (by decide) ?_
  refine aw_cv (d1 := 2) (L1 := 41) rfl rfl mg_121 rfl rfl (by decide) (by decide) (Nat.le_of_ble_eq_true rfl) (c_mmu hR3 rfl (by decide) (fun k3 hR4 hk3 => ?_))
  refine aw rfl rfl ?_
  refine aw_vret rfl rfl (q k3 hR4 ((((KM.nu hk1).tr (KM.nu hk2)).tr hU).tr (KM.nu hk3)) (fun w => ?_))
  have w0 : (iS Y 0 2 (go Y s)).2.1.1 = 0 := Decidable.of_not_not (fun z => by rw [mu_f z] at w; exact z w)
  rw [hk3.2, ← ok2 w0]
  exact upd_at
set_option maxRecDepth 4000 in
theorem l_tn35 {Q : Option Value → am_H → Prop} {o1 : Option Value} (hs : sd < 2) (hR : RM Y k s) (hne : s.2.1.1 = 0 → ¬ Y.1 s.1 = 0) (h19 : k.1 19 = nI sd) (q : ∀ k', RM Y k' (mu Y 4 (iS Y 1 99 (go Y s))) → KNu 35 sd (sd + 1) k k' → ((mu Y 4 (iS Y 1 99 (go Y s))).2.1.1 = 0 → k'.2.1 35 sd = nI (iV Y 1 (go Y s))) → Q none (mh g k' v pl br lo c ct pr pt cm bf bt)) : AW am_P 6 126 202 284 [some (.ref 121), o1] [] (mh g k v pl br lo c ct pr pt cm bf bt) Q := by
  refine aw rfl rfl ?_
  refine aw_cv (d1 := 1) (L1 := 21) rfl rfl mg_121 rfl rfl (by decide) (by decide) (Nat.le_of_ble_eq_true rfl) (c_X11_goesOn hR hne (fun k1 hR1 hk1 => ?_))
  have h191 : k1.1 19 = nI sd := by rw [hk1.1 19 (by omega)]; exact h19
  refine aw rfl rfl ?_
  refine aw_getf rfl mg_121 rfl ?_
  refine aw rfl rfl ?_
  refine aw_getfE rfl mg_121 rfl (congrArg Value.int h191) ?_
  refine aw rfl rfl ?_
  refine aw_c (v := nI 1) rfl (by decide) ?_
  refine aw_c (v := nI 99) rfl (by decide) ?_
  refine aw_cv (d1 := 2) (L1 := 41) rfl rfl mg_121 rfl rfl (by decide) (by decide) (Nat.le_of_ble_eq_true rfl) (c_mbd hR1 rfl (by decide) (by decide) (fun k2 x2 hR2 hk2 ok2 => ?_))
  refine aw_iastU rfl mg_143 rfl (by omega) (by decide) (by decide) mu_143 ?_
  have hU : KNu 35 sd (sd + 1) k2 (k2.1, va_up k2.2.1 35 (upd (k2.2.1 35) sd x2), k2.2.2) := ⟨fun _ _ => rfl, fun n hn => vu_ot hn, fun i hi => upd_ne (by omega), rfl⟩
  have hR3 : RM Y (k2.1, va_up k2.2.1 35 (upd (k2.2.1 35) sd x2), k2.2.2) _ := hR2.kp (hU.kp (by decide)) rfl (fun _ _ _ => rfl)
  refine aw rfl rfl ?_
  refine aw_c (v := nI 4) rfl (by decide) ?_
  refine aw_cv (d1 := 2) (L1 := 41) rfl rfl mg_121 rfl rfl (by decide) (by decide) (Nat.le_of_ble_eq_true rfl) (c_mmu hR3 rfl (by decide) (fun k3 hR4 hk3 => ?_))
  refine aw rfl rfl ?_
  refine aw_vret rfl rfl (q k3 hR4 ((((KM.nu hk1).tr (KM.nu hk2)).tr hU).tr (KM.nu hk3)) (fun w => ?_))
  have w0 : (iS Y 1 99 (go Y s)).2.1.1 = 0 := Decidable.of_not_not (fun z => by rw [mu_f z] at w; exact z w)
  rw [hk3.2, ← ok2 w0]
  exact upd_at
set_option maxRecDepth 4000 in
theorem l_tn36 {Q : Option Value → am_H → Prop} {o1 : Option Value} (hs : sd < 2) (hR : RM Y k s) (hne : s.2.1.1 = 0 → ¬ Y.1 s.1 = 0) (h19 : k.1 19 = nI sd) (q : ∀ k', RM Y k' (mu Y 4 (iS Y 0 9999 (go Y s))) → KNu 36 sd (sd + 1) k k' → ((mu Y 4 (iS Y 0 9999 (go Y s))).2.1.1 = 0 → k'.2.1 36 sd = nI (iV Y 0 (go Y s))) → Q none (mh g k' v pl br lo c ct pr pt cm bf bt)) : AW am_P 6 126 202 312 [some (.ref 121), o1] [] (mh g k v pl br lo c ct pr pt cm bf bt) Q := by
  refine aw rfl rfl ?_
  refine aw_cv (d1 := 1) (L1 := 21) rfl rfl mg_121 rfl rfl (by decide) (by decide) (Nat.le_of_ble_eq_true rfl) (c_X11_goesOn hR hne (fun k1 hR1 hk1 => ?_))
  have h191 : k1.1 19 = nI sd := by rw [hk1.1 19 (by omega)]; exact h19
  refine aw rfl rfl ?_
  refine aw_getf rfl mg_121 rfl ?_
  refine aw rfl rfl ?_
  refine aw_getfE rfl mg_121 rfl (congrArg Value.int h191) ?_
  refine aw rfl rfl ?_
  refine aw_c (v := nI 0) rfl (by decide) ?_
  refine aw_c (v := nI 9999) rfl (by decide) ?_
  refine aw_cv (d1 := 2) (L1 := 41) rfl rfl mg_121 rfl rfl (by decide) (by decide) (Nat.le_of_ble_eq_true rfl) (c_mbd hR1 rfl (by decide) (by decide) (fun k2 x2 hR2 hk2 ok2 => ?_))
  refine aw_iastU rfl mg_144 rfl (by omega) (by decide) (by decide) mu_144 ?_
  have hU : KNu 36 sd (sd + 1) k2 (k2.1, va_up k2.2.1 36 (upd (k2.2.1 36) sd x2), k2.2.2) := ⟨fun _ _ => rfl, fun n hn => vu_ot hn, fun i hi => upd_ne (by omega), rfl⟩
  have hR3 : RM Y (k2.1, va_up k2.2.1 36 (upd (k2.2.1 36) sd x2), k2.2.2) _ := hR2.kp (hU.kp (by decide)) rfl (fun _ _ _ => rfl)
  refine aw rfl rfl ?_
  refine aw_c (v := nI 4) rfl (by decide) ?_
  refine aw_cv (d1 := 2) (L1 := 41) rfl rfl mg_121 rfl rfl (by decide) (by decide) (Nat.le_of_ble_eq_true rfl) (c_mmu hR3 rfl (by decide) (fun k3 hR4 hk3 => ?_))
  refine aw rfl rfl ?_
  refine aw_vret rfl rfl (q k3 hR4 ((((KM.nu hk1).tr (KM.nu hk2)).tr hU).tr (KM.nu hk3)) (fun w => ?_))
  have w0 : (iS Y 0 9999 (go Y s)).2.1.1 = 0 := Decidable.of_not_not (fun z => by rw [mu_f z] at w; exact z w)
  rw [hk3.2, ← ok2 w0]
  exact upd_at
end C1
