/-! ===== the reference's reader: tellLaw's loop ===== -/
section C1
variable {g : am_H} {k : Mk} {v pl : Nat → Int32} {br lo : Int32} {c ct pr pt cm bf bt : Nat → Int32}
variable {Y : Tk} {s : Ps}
variable {sd a fr bl lo9 : Nat} {k0 : Mk}
theorem ktM {k1 : Mk} (h : KTl sd a bl lo9 k0 k) (h1 : KM k k1) : KTl sd a bl lo9 k0 k1 := h.tr (KL.kt (KM.kl h1)) (Nat.le_refl _) (Nat.le_refl _)
theorem ktL {k1 : Mk} (h : KTl sd a bl lo9 k0 k) (h1 : KL sd bl lo9 k k1) : KTl sd a bl lo9 k0 k1 := h.tr (KL.kt h1) (Nat.le_refl _) (Nat.le_refl _)
theorem c_mtmF {Q : Option Value → am_H → Prop} {b : Nat} (hR : RM Y k s) (hf : ¬ s.2.1.1 = 0) (h39 : k.1 39 = nI b) (hb : bl ≤ b ∧ b < 130 * sd + 130) (hs : sd < 2) (q : ∀ k', RM Y k' s → KL sd bl lo9 k k' → k'.1 39 = nI (b + 1) → Q none (mh g k' v pl br lo c ct pr pt cm bf bt)) : AC am_P 4 83 217 [.ref 121] (mh g k v pl br lo c ct pr pt cm bf bt) Q := by
  refine AC.of (ls := [_]) rfl ?_
  have h13 := hR.2.2.2.1
  have hf8 := hR.2.2.1
  refine aw rfl rfl ?_
  refine aw_getf rfl mg_121 rfl ?_
  refine aw rfl rfl ?_
  refine aw_getfE rfl mg_121 rfl (congrArg Value.int h39) ?_
  refine aw rfl rfl ?_
  refine aw_getf rfl mg_121 rfl ?_
  refine aw_iastU rfl mg_150 rfl (by omega) (by decide) (by decide) mu_150 ?_
  refine aw rfl rfl ?_
  refine aw_getfE rfl mg_121 rfl (congrArg Value.int h13) ?_
  refine aw_nen rfl (fun c17 => ?_) (fun c17 => absurd c17 hf)
  refine aw rfl rfl ?_
  refine aw_getf rfl mg_121 rfl ?_
  refine aw rfl rfl ?_
  refine aw_getfE rfl mg_121 rfl (congrArg Value.int h39) ?_
  refine aw rfl rfl ?_
  refine aw_getf rfl mg_121 rfl ?_
  refine aw_iastU rfl mg_151 rfl (by omega) (by decide) (by decide) mu_151 ?_
  refine aw rfl rfl ?_
  refine aw rfl rfl ?_
  refine aw_getfE rfl mg_121 rfl (congrArg Value.int h39) ?_
  refine aw_c (v := nI 1) rfl (by decide) ?_
  refine aw_addn rfl ?_
  refine aw_putfU rfl mg_121 rfl rfl (by decide) mp_39 ?_
  have hk : KL sd bl lo9 k (va_up k.1 39 (nI (b + 1)), va_up (va_up k.2.1 43 (upd (k.2.1 43) b (k.1 45))) 44 (upd (k.2.1 44) b (k.1 45)), k.2.2) := ((KL.u (j := 43) (by decide) hb).tr (KL.u (j := 44) (by decide) hb) (Nat.le_refl _) (Nat.le_refl _)).tr KL.u39 (Nat.le_refl _) (Nat.le_refl _)
  exact aw_vret rfl rfl (q _ (hR.kl9 hk (Or.inr ⟨_, rfl⟩)) hk rfl)
theorem l_tlF12 {Q : Option Value → am_H → Prop} {k : Mk} {b i : Nat} (hs : sd < 2) (hR : RM Y k s) (hf : ¬ s.2.1.1 = 0) (h39 : k.1 39 = nI b) (hb : bl ≤ b ∧ b + 1 ≤ 130 * sd + 130) (hK : KTl sd a bl lo9 k0 k) (q : ∀ k', RM Y k' s → KTl sd a bl lo9 k0 k' → Q none (mh g k' v pl br lo c ct pr pt cm bf bt)) : AW am_P 5 103 212 12 [some (.ref 121), some (.int (nI a)), some (.int (nI fr)), some (.int (nI i))] [] (mh g k v pl br lo c ct pr pt cm bf bt) Q := by
  have h13 := hR.2.2.2.1
  have hf8 := hR.2.2.1
  refine aw rfl rfl ?_
  refine aw_getfE rfl mg_121 rfl (congrArg Value.int h13) ?_
  refine aw_nen rfl (fun c16 => ?_) (fun c16 => absurd c16 hf)
  refine aw rfl rfl ?_
  refine aw_getf rfl mg_121 rfl ?_
  refine aw rfl rfl ?_
  refine aw_getfE rfl mg_121 rfl (congrArg Value.int h39) ?_
  refine aw_c (v := nI 0) rfl (by decide) ?_
  refine aw_bastU rfl mg_147 rfl (by omega) (by decide) (by decide) mu_147 ?_
  refine aw rfl rfl ?_
  refine aw_cv (d1 := 4) (L1 := 83) rfl rfl mg_121 rfl rfl (by decide) (by decide) (Nat.le_of_ble_eq_true rfl) (c_mtmF (bl := bl) (lo9 := lo9) (k := (k.1, va_up k.2.1 40 (upd (k.2.1 40) b (nI 0)), k.2.2)) (hR.kl9 (KL.u (sd := sd) (bl := bl) (lo := lo9) (j := 40) (by decide) ⟨hb.1, by omega⟩) (Or.inl rfl)) hf h39 ⟨hb.1, by omega⟩ hs (fun k1 hR1 t1 t2 => ?_))
  refine aw rfl rfl ?_
  refine aw_c (v := nI 4) rfl (by decide) ?_
  refine aw_cv (d1 := 2) (L1 := 41) rfl rfl mg_121 rfl rfl (by decide) (by decide) (Nat.le_of_ble_eq_true rfl) (c_mmu hR1 (mu_f hf) (by decide) (fun k2 hR2 hk2 => ?_))
  refine aw rfl rfl ?_
  refine aw_getfE rfl mg_121 rfl (congrArg Value.int hR2.2.2.2.1) ?_
  refine aw_len rfl (fun c152 => by omega) (fun c152 => ?_)
  exact aw_vret rfl rfl (q k2 hR2 (ktM (ktL (ktL hK (KL.u (j := 40) (by decide) ⟨hb.1, by omega⟩)) t1) hk2))
theorem l_tlF120 {Q : Option Value → am_H → Prop} {k : Mk} {b i : Nat} (hs : sd < 2) (hR : RM Y k s) (hf : ¬ s.2.1.1 = 0) (h39 : k.1 39 = nI b) (hb : bl ≤ b ∧ b + 1 ≤ 130 * sd + 130) (hK : KTl sd a bl lo9 k0 k) (q : ∀ k', RM Y k' s → KTl sd a bl lo9 k0 k' → Q none (mh g k' v pl br lo c ct pr pt cm bf bt)) : AW am_P 5 103 212 120 [some (.ref 121), some (.int (nI a)), some (.int (nI fr)), some (.int (nI i))] [] (mh g k v pl br lo c ct pr pt cm bf bt) Q := by
  have h13 := hR.2.2.2.1
  have hf8 := hR.2.2.1
  refine aw rfl rfl ?_
  refine aw_c (v := nI 35) rfl (by decide) ?_
  refine aw_cv (d1 := 2) (L1 := 41) rfl rfl mg_121 rfl rfl (by decide) (by decide) (Nat.le_of_ble_eq_true rfl) (c_mmu hR (mu_f hf) (by decide) (fun k1 hR1 hk1 => ?_))
  refine aw rfl rfl ?_
  exact l_tlF12 hs hR1 hf (by rw [hk1.1 39 (by omega)]; exact h39) hb (ktM hK hk1) q
theorem l_tlF110 {Q : Option Value → am_H → Prop} {k : Mk} {b i : Nat} (hs : sd < 2) (hR : RM Y k s) (hf : ¬ s.2.1.1 = 0) (h39 : k.1 39 = nI b) (hb : bl ≤ b ∧ b + 2 ≤ 130 * sd + 130) (hK : KTl sd a bl lo9 k0 k) (q : ∀ k', RM Y k' s → KTl sd a bl lo9 k0 k' → Q none (mh g k' v pl br lo c ct pr pt cm bf bt)) : AW am_P 5 103 212 110 [some (.ref 121), some (.int (nI a)), some (.int (nI fr)), some (.int (nI i))] [] (mh g k v pl br lo c ct pr pt cm bf bt) Q := by
  have h13 := hR.2.2.2.1
  have hf8 := hR.2.2.1
  refine aw rfl rfl ?_
  refine aw_c (v := nI 34) rfl (by decide) ?_
  refine aw_cv (d1 := 2) (L1 := 41) rfl rfl mg_121 rfl rfl (by decide) (by decide) (Nat.le_of_ble_eq_true rfl) (c_mmu hR (mu_f hf) (by decide) (fun k1 hR1 hk1 => ?_))
  refine aw rfl rfl ?_
  refine aw_cv (d1 := 4) (L1 := 83) rfl rfl mg_121 rfl rfl (by decide) (by decide) (Nat.le_of_ble_eq_true rfl) (c_mtmF (bl := bl) (lo9 := lo9) hR1 hf (show k1.1 39 = nI b by rw [hk1.1 39 (by omega)]; exact h39) ⟨hb.1, by omega⟩ hs (fun k2 hR2 t1 t2 => ?_))
  refine aw rfl rfl ?_
  refine aw_c (v := nI 35) rfl (by decide) ?_
  refine aw_cv (d1 := 2) (L1 := 41) rfl rfl mg_121 rfl rfl (by decide) (by decide) (Nat.le_of_ble_eq_true rfl) (c_mmu hR2 (mu_f hf) (by decide) (fun k3 hR3 hk3 => ?_))
  refine aw rfl rfl ?_
  exact l_tlF12 (b := b + 1) hs hR3 hf (by rw [hk3.1 39 (by omega)]; exact t2) ⟨by omega, by omega⟩ (ktM (ktL (ktM hK hk1) t1) hk3) q
theorem l_tlF116 {Q : Option Value → am_H → Prop} {k : Mk} {b i : Nat} (hs : sd < 2) (hR : RM Y k s) (hf : ¬ s.2.1.1 = 0) (h39 : k.1 39 = nI b) (hb : bl ≤ b ∧ b + 2 ≤ 130 * sd + 130) (hK : KTl sd a bl lo9 k0 k) (q : ∀ k', RM Y k' s → KTl sd a bl lo9 k0 k' → Q none (mh g k' v pl br lo c ct pr pt cm bf bt)) : AW am_P 5 103 212 116 [some (.ref 121), some (.int (nI a)), some (.int (nI fr)), some (.int (nI i))] [] (mh g k v pl br lo c ct pr pt cm bf bt) Q := by
  have h13 := hR.2.2.2.1
  have hf8 := hR.2.2.1
  refine aw rfl rfl ?_
  refine aw_cv (d1 := 4) (L1 := 83) rfl rfl mg_121 rfl rfl (by decide) (by decide) (Nat.le_of_ble_eq_true rfl) (c_mtmF (bl := bl) (lo9 := lo9) hR hf h39 ⟨hb.1, by omega⟩ hs (fun k2 hR2 t1 t2 => ?_))
  refine aw rfl rfl ?_
  refine aw_c (v := nI 35) rfl (by decide) ?_
  refine aw_cv (d1 := 2) (L1 := 41) rfl rfl mg_121 rfl rfl (by decide) (by decide) (Nat.le_of_ble_eq_true rfl) (c_mmu hR2 (mu_f hf) (by decide) (fun k3 hR3 hk3 => ?_))
  refine aw rfl rfl ?_
  exact l_tlF12 (b := b + 1) hs hR3 hf (by rw [hk3.1 39 (by omega)]; exact t2) ⟨by omega, by omega⟩ (ktM (ktL hK t1) hk3) q
theorem l_tlF86 {Q : Option Value → am_H → Prop} {k : Mk} {b i : Nat} (hs : sd < 2) (hR : RM Y k s) (hf : ¬ s.2.1.1 = 0) (h39 : k.1 39 = nI b) (hb : bl ≤ b ∧ b + 2 ≤ 130 * sd + 130) (hK : KTl sd a bl lo9 k0 k) (q : ∀ k', RM Y k' s → KTl sd a bl lo9 k0 k' → Q none (mh g k' v pl br lo c ct pr pt cm bf bt)) : AW am_P 5 103 212 86 [some (.ref 121), some (.int (nI a)), some (.int (nI fr)), some (.int (nI i))] [] (mh g k v pl br lo c ct pr pt cm bf bt) Q := by
  have h13 := hR.2.2.2.1
  have hf8 := hR.2.2.1
  refine aw rfl rfl ?_
  refine aw_getf rfl mg_121 rfl ?_
  refine aw rfl rfl ?_
  refine aw_getfE rfl mg_121 rfl (congrArg Value.int h39) ?_
  refine aw rfl rfl ?_
  refine aw_getf rfl mg_121 rfl ?_
  refine aw_iastU rfl mg_149 rfl (by omega) (by decide) (by decide) mu_149 ?_
  refine aw rfl rfl ?_
  refine aw_getfE rfl mg_121 rfl (congrArg Value.int h13) ?_
  refine aw_nen rfl (fun c103 => ?_) (fun c103 => absurd c103 hf)
  exact l_tlF110 hs (hR.kl9 (KL.u (sd := sd) (bl := bl) (lo := lo9) (j := 42) (by decide) ⟨hb.1, by omega⟩) (Or.inl rfl)) hf h39 hb (ktL hK (KL.u (j := 42) (by decide) ⟨hb.1, by omega⟩)) q
theorem l_tlF80 {Q : Option Value → am_H → Prop} {k : Mk} {b i : Nat} (hs : sd < 2) (hR : RM Y k s) (hf : ¬ s.2.1.1 = 0) (h39 : k.1 39 = nI b) (hb : bl ≤ b ∧ b + 2 ≤ 130 * sd + 130) (hK : KTl sd a bl lo9 k0 k) (q : ∀ k', RM Y k' s → KTl sd a bl lo9 k0 k' → Q none (mh g k' v pl br lo c ct pr pt cm bf bt)) : AW am_P 5 103 212 80 [some (.ref 121), some (.int (nI a)), some (.int (nI fr)), some (.int (nI i))] [] (mh g k v pl br lo c ct pr pt cm bf bt) Q := by
  have h13 := hR.2.2.2.1
  have hf8 := hR.2.2.1
  refine aw rfl rfl ?_
  refine aw_c (v := nI 13) rfl (by decide) ?_
  refine aw_cv (d1 := 2) (L1 := 41) rfl rfl mg_121 rfl rfl (by decide) (by decide) (Nat.le_of_ble_eq_true rfl) (c_mmu hR (mu_f hf) (by decide) (fun k1 hR1 hk1 => ?_))
  exact l_tlF86 hs hR1 hf (by rw [hk1.1 39 (by omega)]; exact h39) hb (ktM hK hk1) q
theorem l_tlF53 {Q : Option Value → am_H → Prop} {k : Mk} {b i : Nat} (hs : sd < 2) (hR : RM Y k s) (hf : ¬ s.2.1.1 = 0) (h39 : k.1 39 = nI b) (hb : bl ≤ b ∧ b + 2 ≤ 130 * sd + 130) (hK : KTl sd a bl lo9 k0 k) (q : ∀ k', RM Y k' s → KTl sd a bl lo9 k0 k' → Q none (mh g k' v pl br lo c ct pr pt cm bf bt)) {cn : Nat} (h45 : k.1 45 = nI cn) (hcn : lo9 ≤ cn) : AW am_P 5 103 212 53 [some (.ref 121), some (.int (nI a)), some (.int (nI fr)), some (.int (nI i))] [] (mh g k v pl br lo c ct pr pt cm bf bt) Q := by
  have hL9 : KL sd bl lo9 k (k.1, va_up (va_up k.2.1 40 (upd (k.2.1 40) b (nI 1))) 41 (upd (k.2.1 41) b (nI cn)), k.2.2) := (KL.u (j := 40) (by decide) ⟨hb.1, by omega⟩).tr (KL.u (j := 41) (by decide) ⟨hb.1, by omega⟩) (Nat.le_refl _) (Nat.le_refl _)
  refine aw rfl rfl ?_
  refine aw_getf rfl mg_121 rfl ?_
  refine aw rfl rfl ?_
  refine aw_getfE rfl mg_121 rfl (congrArg Value.int h39) ?_
  refine aw_c (v := nI 1) rfl (by decide) ?_
  refine aw_bastU rfl mg_147 rfl (by omega) (by decide) (by decide) mu_147 ?_
  refine aw rfl rfl ?_
  refine aw_getf rfl mg_121 rfl ?_
  refine aw rfl rfl ?_
  refine aw_getfE rfl mg_121 rfl (congrArg Value.int h39) ?_
  refine aw rfl rfl ?_
  refine aw_getfE rfl mg_121 rfl (congrArg Value.int h45) ?_
  refine aw_iastU rfl mg_148 rfl (by omega) (by decide) (by decide) mu_148 ?_
  refine aw rfl rfl ?_
  refine aw_cv (d1 := 3) (L1 := 61) rfl rfl mg_121 rfl rfl (by decide) (by decide) (Nat.le_of_ble_eq_true rfl) (c_mxp (k := (k.1, va_up (va_up k.2.1 40 (upd (k.2.1 40) b (nI 1))) 41 (upd (k.2.1 41) b (nI cn)), k.2.2)) hs (hR.kl9 hL9 (Or.inl rfl)) (xp_f hf) h45 (fun w => absurd w hf) (fun k1 hR1 v1 _ => ?_))
  exact l_tlF80 hs hR1 hf (by rw [v1.1 39 (by omega)]; exact h39) hb (ktL (ktL hK hL9) ⟨fun n hn => v1.1 n (by omega), fun n hn => v1.2.1 n (by omega), fun j h4 h5 i _ => by rw [v1.2.1 j (by omega)], fun i hi => v1.2.2.1 i (by omega), v1.2.2.2⟩) q
end C1
