/-! ===== the reference's reader: expression, term ===== -/
/-- what a law that is read leaves -/
def KL (sd bl lo : Nat) (k k' : Mk) : Prop := (∀ n, ¬ ((11 ≤ n ∧ n ≤ 16) ∨ n = 39 ∨ n = 45 ∨ n = 49) → k'.1 n = k.1 n) ∧ (∀ n, ¬ ((40 ≤ n ∧ n ≤ 44) ∨ n = 46 ∨ n = 47 ∨ n = 48) → k'.2.1 n = k.2.1 n) ∧ (∀ j, 40 ≤ j → j ≤ 44 → ∀ i, i < bl ∨ 130 * sd + 130 ≤ i → k'.2.1 j i = k.2.1 j i) ∧ (∀ i, i < lo ∨ 420 * sd + 420 ≤ i → k'.2.1 46 i = k.2.1 46 i ∧ k'.2.1 47 i = k.2.1 47 i) ∧ k'.2.2 = k.2.2
theorem KL.rf {sd bl lo : Nat} {k : Mk} : KL sd bl lo k k := ⟨fun _ _ => rfl, fun _ _ => rfl, fun _ _ _ _ _ => rfl, fun _ _ => ⟨rfl, rfl⟩, rfl⟩
theorem KL.tr {sd bl lo bl1 lo1 : Nat} {k k1 k2 : Mk} (h : KL sd bl lo k k1) (h1 : KL sd bl1 lo1 k1 k2) (hb : bl ≤ bl1) (hl : lo ≤ lo1) : KL sd bl lo k k2 := ⟨fun n hn => (h1.1 n hn).trans (h.1 n hn), fun n hn => (h1.2.1 n hn).trans (h.2.1 n hn), fun j h4 h5 i hi => (h1.2.2.1 j h4 h5 i (by omega)).trans (h.2.2.1 j h4 h5 i hi), fun i hi => ⟨((h1.2.2.2.1 i (by omega)).1).trans ((h.2.2.2.1 i hi).1), ((h1.2.2.2.1 i (by omega)).2).trans ((h.2.2.2.1 i hi).2)⟩, h1.2.2.2.2.trans h.2.2.2.2⟩
theorem KV.kl {sd lo bl : Nat} {k k' : Mk} (h : KV sd lo k k') : KL sd bl lo k k' := ⟨fun n hn => h.1 n (by omega), fun n hn => h.2.1 n (by omega), fun j h4 h5 i _ => by rw [h.2.1 j (by omega)], h.2.2.1, h.2.2.2⟩
theorem KM.kl {sd lo bl : Nat} {k k' : Mk} (h : KM k k') : KL sd bl lo k k' := (KM.kv (sd := sd) (c := lo) h).kl
theorem KL.u {sd bl lo j i : Nat} {x : Int32} {k : Mk} (hj : 40 ≤ j ∧ j ≤ 44) (hi : bl ≤ i ∧ i < 130 * sd + 130) : KL sd bl lo k (k.1, va_up k.2.1 j (upd (k.2.1 j) i x), k.2.2) := by
  refine ⟨fun _ _ => rfl, fun n hn => vu_ot (by omega), fun j9 h4 h5 i9 h9 => ?_, fun i9 _ => ⟨?_, ?_⟩, rfl⟩
  · show va_up k.2.1 j _ j9 i9 = _
    by_cases e : j9 = j
    · subst e; rw [vu_at, upd_ne (by omega)]
    · rw [vu_ot e]
  · show va_up k.2.1 j _ 46 i9 = _
    rw [vu_ot (by omega)]
  · show va_up k.2.1 j _ 47 i9 = _
    rw [vu_ot (by omega)]
theorem KL.u39 {sd bl lo : Nat} {x : Int32} {k : Mk} : KL sd bl lo k (va_up k.1 39 x, k.2.1, k.2.2) := ⟨fun n hn => vu_ot (by omega), fun _ _ => rfl, fun _ _ _ _ _ => rfl, fun _ _ => ⟨rfl, rfl⟩, rfl⟩
theorem KL.kp {sd bl lo : Nat} {k k' : Mk} (h : KL sd bl lo k k') : KP k k' := ⟨fun n hn => h.1 n (by omega), fun n hn => h.2.1 n (by omega), fun n _ => by rw [h.2.2.2.2]⟩
theorem KL.sd {sd bl lo : Nat} {k k' : Mk} (h : KL sd bl lo k k') (hs : sd < 2) (hb : 130 * sd ≤ bl) (hl : 420 * sd ≤ lo) : SDf (1 - sd) k k' := by
  intro j h2 h4 i h5 h6
  have hs2 : sd = 0 ∨ sd = 1 := by omega
  by_cases e : j = 46 ∨ j = 47
  · have hw : wd9 j = 420 := by unfold wd9; rcases e with rfl | rfl <;> rfl
    rw [hw] at h5 h6
    have hi : i < lo ∨ 420 * sd + 420 ≤ i := by rcases hs2 with rfl | rfl <;> omega
    rcases e with rfl | rfl
    · exact (h.2.2.2.1 i hi).1
    · exact (h.2.2.2.1 i hi).2
  · by_cases e2 : 40 ≤ j ∧ j ≤ 44
    · have hw : wd9 j = 130 := by unfold wd9; rw [if_neg (by omega), if_neg (by omega), if_neg (by omega), if_neg (by omega), if_pos e2]
      rw [hw] at h5 h6
      exact h.2.2.1 j e2.1 e2.2 i (by rcases hs2 with rfl | rfl <;> omega)
    · rw [h.2.1 j (by omega)]
theorem RM.kl9 {Y : Tk} {k k' : Mk} {s : Ps} {sd bl lo : Nat} (h : RM Y k s) (hk : KL sd bl lo k k') (h1 : k'.1 = k.1 ∨ ∃ x, k'.1 = va_up k.1 39 x) : RM Y k' s := by
  refine h.kp hk.kp ?_ (fun n h2 h3 => ?_)
  · rcases h1 with e | ⟨x, e⟩
    · rw [e]
    · rw [e]; exact vu_ot (by decide)
  · rcases h1 with e | ⟨x, e⟩
    · rw [e]
    · rw [e]; exact vu_ot (by omega)
section C1
variable {g : am_H} {k : Mk} {v pl : Nat → Int32} {br lo : Int32} {c ct pr pt cm bf bt : Nat → Int32}
variable {Y : Tk} {s : Ps}
variable {cn sd : Nat}
set_option maxRecDepth 4000 in
theorem c_X11_expression {Q : Option Value → am_H → Prop} (hs : sd < 2) (hR : RM Y k s) (h45 : k.1 45 = nI cn) (hok : s.2.1.1 = 0 → k.1 12 = nI 0 ∧ cn + 1 ≤ 420 * sd + s.1) (q : ∀ k', RM Y k' (xp Y s).2 → KV sd cn k k' → ((xp Y s).2.2.1.1 = 0 → k'.1 45 = nI (cn + (xp Y s).1.length) ∧ k'.1 12 = nI 0 ∧ ex_in (k'.2.1 46) (k'.2.1 47) cn (xp Y s).1) → Q none (mh g k' v pl br lo c ct pr pt cm bf bt)) : AC am_P 3 61 213 [.ref 121] (mh g k v pl br lo c ct pr pt cm bf bt) Q := by
  refine AC.of (ls := [_, _, _]) rfl ?_
  have hs4 := hR.2.1
  have h13 := hR.2.2.2.1
  have hf8 := hR.2.2.1
  by_cases hf : s.2.1.1 = 0
  · obtain ⟨h12, hm⟩ := hok hf
    have h130 : k.1 13 = nI 0 := by rw [h13, hf]
    refine aw rfl rfl ?_
    refine aw_c (v := nI 0) rfl (by decide) ?_
    refine aw_putfU rfl mg_121 rfl rfl (by decide) mp_49 ?_
    refine aw rfl rfl ?_
    refine aw_getfE rfl mg_121 rfl (congrArg Value.int h12) ?_
    refine aw_ist (ls' := [_, _, _]) rfl rfl ?_
    refine aw_c (v := nI 1) rfl (by decide) ?_
    refine aw_ist (ls' := [_, _, _]) rfl rfl ?_
    refine aw rfl rfl ?_
    refine aw_eq rfl (fun c => absurd c (by decide)) (fun _ => ?_)
    refine aw rfl rfl ?_
    refine aw_getfE rfl mg_121 rfl (congrArg Value.int h130) ?_
    refine aw_ne rfl (fun c => absurd (by decide) c) (fun _ => ?_)
    exact (l_ex hs (401 - s.1) 0 [] [] s _ (nI 1) (hR.kp (KV.kp (sd := sd) (lo := cn) KV.u49) rfl (fun n h1 h2 => vu_ot (by omega))) hf h12 rfl trivial h45 trivial hm KV.u49).1 ⟨trivial, fun x hx => by simp at hx, rfl, by decide, rfl, by omega, hs4⟩ q
  · rw [xp_f hf] at q
    refine aw rfl rfl ?_
    refine aw_c (v := nI 0) rfl (by decide) ?_
    refine aw_putfU rfl mg_121 rfl rfl (by decide) mp_49 ?_
    refine aw rfl rfl ?_
    refine aw_getf rfl mg_121 rfl ?_
    refine aw_ist (ls' := [_, _, _]) rfl rfl ?_
    refine aw_c (v := nI 1) rfl (by decide) ?_
    refine aw_ist (ls' := [_, _, _]) rfl rfl ?_
    refine aw rfl rfl ?_
    refine aw_eq rfl (fun c => absurd c (by decide)) (fun _ => ?_)
    refine aw rfl rfl ?_
    refine aw_getfE rfl mg_121 rfl (congrArg Value.int h13) ?_
    refine aw_nen rfl (fun c20 => ?_) (fun c20 => absurd c20 hf)
    exact aw_vret rfl rfl (q _ (hR.kp (KV.kp (sd := sd) (lo := cn) KV.u49) rfl (fun n h1 h2 => vu_ot (by omega))) KV.u49 (fun w => absurd w hf))
theorem c_X11_term {Q : Option Value → am_H → Prop} {b : Nat} (hs : sd < 2) (hR : RM Y k s) (h45 : k.1 45 = nI cn) (h39 : k.1 39 = nI b) (hb : b < 130 * sd + 130) (hok : s.2.1.1 = 0 → k.1 12 = nI 0 ∧ cn + 1 ≤ 420 * sd + s.1) (q : ∀ k', RM Y k' (xp Y s).2 → KL sd b cn k k' → k'.1 39 = nI (b + 1) → (∀ j, j = 40 ∨ j = 41 ∨ j = 42 → k'.2.1 j = k.2.1 j) → ((xp Y s).2.2.1.1 = 0 → k'.1 45 = nI (cn + (xp Y s).1.length) ∧ k'.1 12 = nI 0 ∧ ex_in (k'.2.1 46) (k'.2.1 47) cn (xp Y s).1 ∧ k'.2.1 43 b = nI cn ∧ k'.2.1 44 b = nI (cn + (xp Y s).1.length)) → Q none (mh g k' v pl br lo c ct pr pt cm bf bt)) : AC am_P 4 83 217 [.ref 121] (mh g k v pl br lo c ct pr pt cm bf bt) Q := by
  refine AC.of (ls := [_]) rfl ?_
  have h13 := hR.2.2.2.1
  have hf8 := hR.2.2.1
  refine aw rfl rfl ?_
  refine aw_getf rfl mg_121 rfl ?_
  refine aw rfl rfl ?_
  refine aw_getfE rfl mg_121 rfl (congrArg Value.int h39) ?_
  refine aw rfl rfl ?_
  refine aw_getfE rfl mg_121 rfl (congrArg Value.int h45) ?_
  refine aw_iastU rfl mg_150 rfl (by omega) (by decide) (by decide) mu_150 ?_
  refine aw rfl rfl ?_
  refine aw_getfE rfl mg_121 rfl (congrArg Value.int h13) ?_
  refine aw_nen rfl (fun c17 => ?_) (fun c17 => ?_)
  · refine aw rfl rfl ?_
    refine aw_getf rfl mg_121 rfl ?_
    refine aw rfl rfl ?_
    refine aw_getfE rfl mg_121 rfl (congrArg Value.int h39) ?_
    refine aw rfl rfl ?_
    refine aw_getfE rfl mg_121 rfl (congrArg Value.int h45) ?_
    refine aw_iastU rfl mg_151 rfl (by omega) (by decide) (by decide) mu_151 ?_
    refine aw rfl rfl ?_
    refine aw rfl rfl ?_
    refine aw_getfE rfl mg_121 rfl (congrArg Value.int h39) ?_
    refine aw_c (v := nI 1) rfl (by decide) ?_
    refine aw_addn rfl ?_
    refine aw_putfU rfl mg_121 rfl rfl (by decide) mp_39 ?_
    refine aw_vret rfl rfl (q _ ?_ ?_ rfl (fun j hj => ?_) (fun hg => ?_))
    · rw [xp_f c17]; exact (hR.kl9 (KL.u (sd := sd) (bl := b) (lo := cn) (by decide) ⟨Nat.le_refl _, hb⟩) (Or.inl rfl)).kl9 (k' := _) (KL.tr (KL.u (sd := sd) (bl := b) (lo := cn) (j := 44) (by decide) ⟨Nat.le_refl _, hb⟩) KL.u39 (Nat.le_refl _) (Nat.le_refl _)) (Or.inr ⟨_, rfl⟩)
    · exact ((KL.u (by decide) ⟨Nat.le_refl _, hb⟩).tr (KL.rf) (Nat.le_refl _) (Nat.le_refl _)).tr ((KL.u (by decide) ⟨Nat.le_refl _, hb⟩).tr KL.u39 (Nat.le_refl _) (Nat.le_refl _)) (Nat.le_refl _) (Nat.le_refl _)
    · show va_up (va_up k.2.1 43 _) 44 _ j = _
      rw [vu_ot (by omega), vu_ot (by omega)]
    · rw [xp_f c17] at hg; exact absurd hg c17
  · refine aw rfl rfl ?_
    refine aw_cv (d1 := 3) (L1 := 61) rfl rfl mg_121 rfl rfl (by decide) (by decide) (Nat.le_of_ble_eq_true rfl) (c_X11_expression (k := (k.1, va_up k.2.1 43 (upd (k.2.1 43) b (nI cn)), k.2.2)) (cn := cn) hs (hR.kl9 (KL.u (sd := sd) (bl := b) (lo := cn) (by decide) ⟨Nat.le_refl _, hb⟩) (Or.inl rfl)) h45 hok (fun k1 hR1 hv1 ok1 => ?_))
    refine aw rfl rfl ?_
    refine aw_getf rfl mg_121 rfl ?_
    refine aw rfl rfl ?_
    refine aw_getfE rfl mg_121 rfl (congrArg Value.int (show k1.1 39 = nI b by rw [hv1.1 39 (by omega)]; exact h39)) ?_
    refine aw rfl rfl ?_
    refine aw_getf rfl mg_121 rfl ?_
    refine aw_iastU rfl mg_151 rfl (by omega) (by decide) (by decide) mu_151 ?_
    refine aw rfl rfl ?_
    refine aw rfl rfl ?_
    refine aw_getfE rfl mg_121 rfl (congrArg Value.int (show k1.1 39 = nI b by rw [hv1.1 39 (by omega)]; exact h39)) ?_
    refine aw_c (v := nI 1) rfl (by decide) ?_
    refine aw_addn rfl ?_
    refine aw_putfU rfl mg_121 rfl rfl (by decide) mp_39 ?_
    refine aw_vret rfl rfl (q _ ?_ ?_ rfl (fun j hj => ?_) (fun hg => ?_))
    · exact hR1.kl9 (k' := _) (KL.tr (KL.u (sd := sd) (bl := b) (lo := cn) (j := 44) (by decide) ⟨Nat.le_refl _, hb⟩) KL.u39 (Nat.le_refl _) (Nat.le_refl _)) (Or.inr ⟨_, rfl⟩)
    · exact ((KL.u (by decide) ⟨Nat.le_refl _, hb⟩).tr (hv1.kl) (Nat.le_refl _) (Nat.le_refl _)).tr ((KL.u (by decide) ⟨Nat.le_refl _, hb⟩).tr KL.u39 (Nat.le_refl _) (Nat.le_refl _)) (Nat.le_refl _) (Nat.le_refl _)
    · show va_up k1.2.1 44 _ j = _
      rw [vu_ot (by omega), hv1.2.1 j (by omega)]
      show va_up k.2.1 43 _ j = _
      rw [vu_ot (by omega)]
    · obtain ⟨o1, o2, o3⟩ := ok1 hg
      refine ⟨o1, o2, o3, ?_, ?_⟩
      · show k1.2.1 43 b = _
        rw [hv1.2.1 43 (by omega)]
        exact upd_at
      · show upd (k1.2.1 44) b (k1.1 45) b = _
        rw [upd_at]; exact o1
end C1
