/-! ===== the reference's reader: tellLaw ===== -/
theorem KTl.rf {sd a bl lo : Nat} {k : Mk} : KTl sd a bl lo k k := KL.kt KL.rf
theorem lw_i2_w {l1 l2 hi : Nat} {k : Mk} : ∀ (w : Lw) (b : Nat), l1 ≤ l2 → lw_i2 l2 hi k b w → lw_i2 l1 hi k b w := by
  intro w
  induction w with
  | nil => intro b _ _; trivial
  | cons z t ih =>
    obtain ⟨z1, e⟩ := z
    intro b hl h
    cases z1 with
    | none => obtain ⟨h1, ⟨p, hp, h2⟩, h3, h4⟩ := h; exact ⟨h1, ⟨p, by omega, h2⟩, h3, ih _ hl h4⟩
    | some w => obtain ⟨h1, ⟨p, hp, h2⟩, h3, h4, h5, h6⟩ := h; exact ⟨h1, ⟨p, by omega, h2⟩, h3, h4, h5, ih _ hl h6⟩
section C1
variable {g : am_H} {k : Mk} {v pl : Nat → Int32} {br lo : Int32} {c ct pr pt cm bf bt : Nat → Int32}
variable {Y : Tk} {s : Ps}
variable {sd a fr : Nat}
theorem l_tlaw {Q : Option Value → am_H → Prop} (hs : sd < 2) (ha : a < 3) : ∀ (n : Nat) (s : Ps) (k : Mk) (b cn : Nat) (_ : n ≤ 4) (_ : RM Y k s) (_ : k.1 19 = nI sd) (_ : k.1 39 = nI b) (_ : k.1 45 = nI cn) (_ : 130 * sd ≤ b ∧ b + 1 ≤ 130 * sd + 130) (_ : 420 * sd ≤ cn) (_ : (s.2.1.1 = 0 → (k.1 12 = nI 0 ∧ cn + 1 ≤ 420 * sd + s.1) ∧ 4 * b + 2 ≤ 520 * sd + s.1)) (_ : ∀ k', RM Y k' (mu Y 4 (lwL Y n s).2) → KTl sd a b cn k k' → ((mu Y 4 (lwL Y n s).2).2.1.1 = 0 → (∃ c' : Nat, lw_i2 cn c' k' b (lwL Y n s).1 ∧ k'.1 39 = nI (b + List.length (lwL Y n s).1) ∧ (k'.1 45 = nI c' ∧ c' ≤ 420 * sd + (mu Y 4 (lwL Y n s).2).1) ∧ cn ≤ c') ∧ k'.1 12 = nI 0 ∧ k'.2.1 37 (3 * sd + a) = nI fr ∧ k'.2.1 38 (3 * sd + a) = nI (b + List.length (lwL Y n s).1)) → Q none (mh g k' v pl br lo c ct pr pt cm bf bt)), AW am_P 5 103 212 12 [some (.ref 121), some (.int (nI a)), some (.int (nI fr)), some (.int (nI (4 - n)))] [] (mh g k v pl br lo c ct pr pt cm bf bt) Q := by
  intro n
  induction n with
  | zero =>
    intro s k b cn hn hR h19 h39 h45 hb hlo hok q
    have h13 := hR.2.2.2.1
    have hf8 := hR.2.2.1
    by_cases hf : s.2.1.1 = 0
    · have h130 : k.1 13 = nI 0 := by rw [h13, hf]
      rw [lwL] at q
      refine aw rfl rfl ?_
      refine aw_getfE rfl mg_121 rfl (congrArg Value.int h130) ?_
      refine aw_ne rfl (fun c => absurd (by decide) c) (fun _ => ?_)
      refine aw rfl rfl ?_
      refine aw_c (v := nI 33) rfl (by decide) ?_
      refine aw_cv (d1 := 0) (L1 := 0) rfl rfl mg_121 rfl rfl (by decide) (by decide) (Nat.le_of_ble_eq_true rfl) (c_X11_is hR (by decide) (fun _ e33 => ?_) (fun e33 => ?_))
      · refine aw_eq rfl (fun c => absurd c (by decide)) (fun _ => ?_)
        refine aw rfl rfl ?_
        refine aw_c (v := nI 4) rfl (by decide) ?_
        refine aw_ine rfl (fun c => absurd (by decide) c) (fun _ => ?_)
        refine aw rfl rfl ?_
        refine aw_c (v := nI 2) rfl (by decide) ?_
        refine aw_cv (d1 := 0) (L1 := 0) rfl rfl mg_121 rfl rfl (by decide) (by decide) (Nat.le_of_ble_eq_true rfl) (c_X11_fail hR (by decide) (fun k1 hR1 hk1 => ?_))
        have hf81 := hR1.2.2.1
        have hfl1 : ¬ (fl Y 2 s).2.1.1 = 0 := fl_0 (by decide)
        refine aw rfl rfl ?_
        refine aw_getfE rfl mg_121 rfl (congrArg Value.int hR1.2.2.2.1) ?_
        refine aw_len rfl (fun c42 => by omega) (fun c42 => ?_)
        rw [if_pos ⟨hf, e33⟩] at q
        have hff : ¬ (fl Y 2 s).2.1.1 = 0 := fl_0 (by decide)
        dsimp only at q
        rw [mu_f hff] at q
        exact aw_vret rfl rfl (q k1 hR1 (KL.kt (KM.kl hk1)) (fun w => absurd w hff))
      · refine aw_eq rfl (fun _ => ?_) (fun c => absurd (by decide) c)
        rw [if_neg (fun w => e33 hf w.2)] at q
        exact l_tlE hs ha hR h19 h39 h45 (by omega) hlo (fun w => (hok w).1) q
    · rw [lwL_f hf, mu_f hf] at q
      exact l_tlF12 (b := b) hs hR hf h39 ⟨Nat.le_refl _, hb.2⟩ KTl.rf (fun k1 r1 r2 => q k1 r1 r2 (fun w => absurd w hf))
  | succ n ih =>
    intro s k b cn hn hR h19 h39 h45 hb hlo hok q
    have h13 := hR.2.2.2.1
    have hf8 := hR.2.2.1
    have hs4 := hR.2.1
    have hkk := hR.1.2.1.1
    by_cases hf : s.2.1.1 = 0
    · have h130 : k.1 13 = nI 0 := by rw [h13, hf]
      obtain ⟨⟨h12, hm⟩, h4b⟩ := hok hf
      rw [lwL] at q
      refine aw rfl rfl ?_
      refine aw_getfE rfl mg_121 rfl (congrArg Value.int h130) ?_
      refine aw_ne rfl (fun c => absurd (by decide) c) (fun _ => ?_)
      refine aw rfl rfl ?_
      refine aw_c (v := nI 33) rfl (by decide) ?_
      refine aw_cv (d1 := 0) (L1 := 0) rfl rfl mg_121 rfl rfl (by decide) (by decide) (Nat.le_of_ble_eq_true rfl) (c_X11_is hR (by decide) (fun _ e33 => ?_) (fun e33 => ?_))
      · rw [if_pos ⟨hf, e33⟩] at q
        obtain ⟨s1, hg1⟩ : ∃ p, go Y s = p := ⟨_, rfl⟩
        obtain ⟨⟨e2, s2⟩, hx2⟩ : ∃ p, xp Y s1 = p := ⟨_, rfl⟩
        obtain ⟨s3, hm3⟩ : ∃ p, mu Y 13 s2 = p := ⟨_, rfl⟩
        obtain ⟨⟨e4, s4⟩, hx4⟩ : ∃ p, xp Y s3 = p := ⟨_, rfl⟩
        obtain ⟨s6, hm6⟩ : ∃ p, mu Y 34 s4 = p := ⟨_, rfl⟩
        obtain ⟨⟨e7, s7⟩, hx7⟩ : ∃ p, xp Y s6 = p := ⟨_, rfl⟩
        obtain ⟨s8, hm8⟩ : ∃ p, mu Y 35 s7 = p := ⟨_, rfl⟩
        have hB : lwB Y s = ((some (e2, e4), e7), s8) := by simp only [lwB, hg1, hx2, hm3, hx4, hm6, hx7, hm8]
        rw [hB] at q
        dsimp only at q
        refine aw_eq rfl (fun c => absurd c (by decide)) (fun _ => ?_)
        refine aw rfl rfl ?_
        refine aw_c (v := nI 4) rfl (by decide) ?_
        refine aw_inen rfl (fun c30 => ?_) (fun c30 => by omega)
        refine aw rfl rfl ?_
        refine aw_getfE rfl mg_121 rfl (congrArg Value.int h130) ?_
        refine aw_le rfl (fun _ => ?_) (fun c => absurd (by decide) c)
        refine aw_incn (c := 1) (ls' := [_, _, _, _]) rfl rfl (by decide) rfl ?_
        refine aw rfl rfl ?_
        refine aw_cv (d1 := 1) (L1 := 21) rfl rfl mg_121 rfl rfl (by decide) (by decide) (Nat.le_of_ble_eq_true rfl) (c_mgo hR hg1 (fun _ => by omega) (fun k1 hR1 hk1 => ?_))
        have hK1 : KTl sd a b cn k k1 := KL.kt (KM.kl hk1)
        have h39k1 : k1.1 39 = nI b := by rw [hk1.1 39 (by omega)]; exact h39
        have h45k1 : k1.1 45 = nI cn := by rw [hk1.1 45 (by omega)]; exact h45
        by_cases hff : s1.2.1.1 = 0
        · skip
          have h1f := hff
          have hL9 : KL sd b cn k1 (k1.1, va_up (va_up k1.2.1 40 (upd (k1.2.1 40) b (nI 1))) 41 (upd (k1.2.1 41) b (nI cn)), k1.2.2) := (KL.u (j := 40) (by decide) ⟨Nat.le_refl _, by omega⟩).tr (KL.u (j := 41) (by decide) ⟨Nat.le_refl _, by omega⟩) (Nat.le_refl _) (Nat.le_refl _)
          refine aw rfl rfl ?_
          refine aw_getf rfl mg_121 rfl ?_
          refine aw rfl rfl ?_
          refine aw_getfE rfl mg_121 rfl (congrArg Value.int h39k1) ?_
          refine aw_c (v := nI 1) rfl (by decide) ?_
          refine aw_bastU rfl mg_147 rfl (by omega) (by decide) (by decide) mu_147 ?_
          refine aw rfl rfl ?_
          refine aw_getf rfl mg_121 rfl ?_
          refine aw rfl rfl ?_
          refine aw_getfE rfl mg_121 rfl (congrArg Value.int h39k1) ?_
          refine aw rfl rfl ?_
          refine aw_getfE rfl mg_121 rfl (congrArg Value.int h45k1) ?_
          refine aw_iastU rfl mg_148 rfl (by omega) (by decide) (by decide) mu_148 ?_
          refine aw rfl rfl ?_
          refine aw_cv (d1 := 3) (L1 := 61) rfl rfl mg_121 rfl rfl (by decide) (by decide) (Nat.le_of_ble_eq_true rfl) (c_mxp (k := (k1.1, va_up (va_up k1.2.1 40 (upd (k1.2.1 40) b (nI 1))) 41 (upd (k1.2.1 41) b (nI cn)), k1.2.2)) hs (hR1.kl9 hL9 (Or.inl rfl)) hx2 h45k1 (fun _ => ⟨show k1.1 12 = nI 0 by rw [hk1.1 12 (by omega)]; exact h12, by have := go_E hg1 h1f; omega⟩) (fun k2 hR2 v2 ok2 => ?_))
          have hK2 : KTl sd a b cn k k2 := (ktL hK1 hL9).tr (KL.kt (v2.kl (bl := b))) (Nat.le_refl _) (Nat.le_refl _)
          have h39k2 : k2.1 39 = nI b := by rw [v2.1 39 (by omega)]; exact h39k1
          by_cases hff : s2.2.1.1 = 0
          · skip
            have h2f := hff
            have o2 := ok2 hff
            refine aw rfl rfl ?_
            refine aw_c (v := nI 13) rfl (by decide) ?_
            refine aw_cv (d1 := 2) (L1 := 41) rfl rfl mg_121 rfl rfl (by decide) (by decide) (Nat.le_of_ble_eq_true rfl) (c_mmu hR2 hm3 (by decide) (fun k3 hR3 hk3 => ?_))
            have hK3 := ktM hK2 hk3
            have h39k3 : k3.1 39 = nI b := by rw [hk3.1 39 (by omega)]; exact h39k2
            by_cases hff : s3.2.1.1 = 0
            · skip
              have h3f := hff
              have hcb3 : cn + e2.length + 1 ≤ 420 * sd + s3.1 := by
                have y1 := go_E hg1 h1f
                have x2 := xp_E hx2 hR1.2.1 hkk h2f
                have m3 := mu_E hm3 h3f
                omega
              have h45k3 : k3.1 45 = nI (cn + e2.length) := by rw [hk3.1 45 (by omega)]; exact o2.1
              have h12k3 : k3.1 12 = nI 0 := by rw [hk3.1 12 (by omega)]; exact o2.2.1
              refine aw rfl rfl ?_
              refine aw_getf rfl mg_121 rfl ?_
              refine aw rfl rfl ?_
              refine aw_getfE rfl mg_121 rfl (congrArg Value.int h39k3) ?_
              refine aw rfl rfl ?_
              refine aw_getfE rfl mg_121 rfl (congrArg Value.int h45k3) ?_
              refine aw_iastU rfl mg_149 rfl (by omega) (by decide) (by decide) mu_149 ?_
              refine aw rfl rfl ?_
              refine aw_getfE rfl mg_121 rfl (congrArg Value.int (show k3.1 13 = nI 0 by rw [hR3.2.2.2.1, h3f])) ?_
              refine aw_ne rfl (fun c => absurd (by decide) c) (fun _ => ?_)
              refine aw rfl rfl ?_
              refine aw_cv (d1 := 3) (L1 := 61) rfl rfl mg_121 rfl rfl (by decide) (by decide) (Nat.le_of_ble_eq_true rfl) (c_mxp (k := (k3.1, va_up k3.2.1 42 (upd (k3.2.1 42) b (nI (cn + e2.length))), k3.2.2)) hs (hR3.kl9 (KL.u (sd := sd) (bl := b) (lo := cn) (j := 42) (by decide) ⟨Nat.le_refl _, by omega⟩) (Or.inl rfl)) hx4 h45k3 (fun _ => ⟨h12k3, hcb3⟩) (fun k4 hR4 v4 ok4 => ?_))
              have hK4 : KTl sd a b cn k k4 := (ktL hK3 (KL.u (j := 42) (by decide) ⟨Nat.le_refl _, by omega⟩)).tr (KL.kt (v4.kl (bl := b))) (Nat.le_refl _) (by omega)
              have h39k4 : k4.1 39 = nI b := by rw [v4.1 39 (by omega)]; exact h39k3
              by_cases hff : s4.2.1.1 = 0
              · skip
                have h4f := hff
                have o4 := ok4 hff
                refine aw rfl rfl ?_
                refine aw_c (v := nI 34) rfl (by decide) ?_
                refine aw_cv (d1 := 2) (L1 := 41) rfl rfl mg_121 rfl rfl (by decide) (by decide) (Nat.le_of_ble_eq_true rfl) (c_mmu hR4 hm6 (by decide) (fun k6 hR6 hk6 => ?_))
                have hK6 := ktM hK4 hk6
                have h39k6 : k6.1 39 = nI b := by rw [hk6.1 39 (by omega)]; exact h39k4
                by_cases hff : s6.2.1.1 = 0
                · skip
                  have h6f := hff
                  have hcb6 : cn + e2.length + e4.length + 1 ≤ 420 * sd + s6.1 := by
                    have y1 := go_E hg1 h1f
                    have x2 := xp_E hx2 hR1.2.1 hkk h2f
                    have m3 := mu_E hm3 h3f
                    have x4 := xp_E hx4 hR3.2.1 hkk h4f
                    have m6 := mu_E hm6 h6f
                    omega
                  refine aw rfl rfl ?_
                  refine aw_cv (d1 := 4) (L1 := 83) rfl rfl mg_121 rfl rfl (by decide) (by decide) (Nat.le_of_ble_eq_true rfl) (c_mtm hs hR6 hx7 (show k6.1 45 = nI (cn + e2.length + e4.length) by rw [hk6.1 45 (by omega)]; exact o4.1) h39k6 (by omega) (fun _ => ⟨by rw [hk6.1 12 (by omega)]; exact o4.2.1, hcb6⟩) (fun k7 hR7 t1 t2 t3 ok7 => ?_))
                  have hK7 : KTl sd a b cn k k7 := hK6.tr (KL.kt t1) (Nat.le_refl _) (by omega)
                  by_cases hff : s7.2.1.1 = 0
                  · skip
                    have h7f := hff
                    have o7 := ok7 hff
                    refine aw rfl rfl ?_
                    refine aw_c (v := nI 35) rfl (by decide) ?_
                    refine aw_cv (d1 := 2) (L1 := 41) rfl rfl mg_121 rfl rfl (by decide) (by decide) (Nat.le_of_ble_eq_true rfl) (c_mmu hR7 hm8 (by decide) (fun k8 hR8 hk8 => ?_))
                    refine aw rfl rfl ?_
                    have hK8 := ktM hK7 hk8
                    have f39 : k8.1 39 = nI (b + 1) := by rw [hk8.1 39 (by omega)]; exact t2
                    have h45x : ∃ c9 : Nat, cn ≤ c9 ∧ k8.1 45 = nI c9 ∧ (s8.2.1.1 = 0 → c9 = cn + e2.length + e4.length + e7.length) := by
                      refine ⟨cn + e2.length + e4.length + e7.length, by omega, ?_, fun _ => rfl⟩
                      rw [hk8.1 45 (by omega)]; exact o7.1
                    obtain ⟨c9, hc9, f45, hc9e⟩ := h45x
                    rw [show nI (4 - (n + 1) + 1) = nI (4 - n) by rw [show 4 - (n + 1) + 1 = 4 - n by omega]]
                    have y1 := go_E hg1 h1f
                    have x2 := xp_E hx2 hR1.2.1 hkk h2f
                    have m3 := mu_E hm3 h3f
                    have x4 := xp_E hx4 hR3.2.1 hkk h4f
                    have m6 := mu_E hm6 h6f
                    have x7 := xp_E hx7 hR6.2.1 hkk h7f
                    have b7 := hR7.2.1
                    refine ih s8 k8 (b + 1) c9 (by omega) hR8 (by rw [hK8.1 19 (by omega)]; exact h19) f39 f45 ⟨by omega, by omega⟩ (by omega) (fun w => ?_) (fun k9 r1 r2 r3 => ?_)
                    · have m8 := mu_E hm8 w
                      have := hc9e w
                      refine ⟨⟨?_, by omega⟩, by omega⟩
                      rw [hk8.1 12 (by omega)]; exact o7.2.1
                    · refine q k9 r1 (hK8.tr r2 (by omega) (by omega)) (fun w => ?_)
                      have w8 : s8.2.1.1 = 0 := Decidable.of_not_not (fun z9 => by
                        have w : (mu Y 4 (lwL Y n s8).2).2.1.1 = 0 := w
                        rw [lwL_f z9, mu_f z9] at w
                        exact z9 w)
                      have hce := hc9e w8
                      obtain ⟨⟨c8, u1, u2, u3, u3b⟩, u4, u5, u6⟩ := r3 w
                      have arr : ∀ j, 40 ≤ j → j ≤ 44 → k9.2.1 j b = k7.2.1 j b := fun j h4 h5 => by rw [r2.2.2.1 j h4 h5 b (Or.inl (by omega)), hk8.2]
                      have cod : ∀ i, i < c9 → k9.2.1 46 i = k7.2.1 46 i ∧ k9.2.1 47 i = k7.2.1 47 i := fun i hi => by
                        have h9 := r2.2.2.2.1 i (Or.inl hi)
                        rw [hk8.2] at h9
                        exact h9
                      have cod6 : ∀ i, i < cn + e2.length + e4.length → k7.2.1 46 i = k4.2.1 46 i ∧ k7.2.1 47 i = k4.2.1 47 i := fun i hi => by
                        have h9 := t1.2.2.2.1 i (Or.inl hi)
                        rw [hk6.2] at h9
                        exact h9
                      have cod4 : ∀ i, i < cn + e2.length → k4.2.1 46 i = k2.2.1 46 i ∧ k4.2.1 47 i = k2.2.1 47 i := fun i hi => by
                        have h9 := v4.2.2.1 i (Or.inl hi)
                        have e46 : (va_up k3.2.1 42 (upd (k3.2.1 42) b (nI (cn + e2.length)))) 46 = k2.2.1 46 := by rw [vu_ot (by decide), hk3.2]
                        have e47 : (va_up k3.2.1 42 (upd (k3.2.1 42) b (nI (cn + e2.length)))) 47 = k2.2.1 47 := by rw [vu_ot (by decide), hk3.2]
                        exact ⟨h9.1.trans (congrFun e46 i), h9.2.trans (congrFun e47 i)⟩
                      have a40 : k4.2.1 40 b = nI 1 := by
                        rw [v4.2.1 40 (by omega)]
                        show k3.2.1 40 b = _
                        rw [hk3.2, v2.2.1 40 (by omega)]
                        exact upd_at
                      have a41 : k4.2.1 41 b = nI cn := by
                        rw [v4.2.1 41 (by omega)]
                        show k3.2.1 41 b = _
                        rw [hk3.2, v2.2.1 41 (by omega)]
                        exact upd_at
                      have a42 : k4.2.1 42 b = nI (cn + e2.length) := by
                        rw [v4.2.1 42 (by omega)]
                        exact upd_at
                      have k76 : ∀ j, j = 40 ∨ j = 41 ∨ j = 42 → k7.2.1 j b = k4.2.1 j b := fun j hj => by rw [t3 j hj, hk6.2]
                      refine ⟨⟨c8, ⟨?_, ⟨cn, Nat.le_refl _, ?_, ?_, ?_, ?_, ?_, ?_, ?_, ?_⟩, x2.2.1, x4.2.1, x7.2.1, ?_⟩, ?_, u3, by omega⟩, u4, u5, ?_⟩
                      · rw [arr 40 (by decide) (by decide), k76 40 (by omega)]; exact a40
                      · rw [arr 41 (by decide) (by decide), k76 41 (by omega)]; exact a41
                      · rw [arr 42 (by decide) (by decide), k76 42 (by omega)]; exact a42
                      · rw [arr 43 (by decide) (by decide)]; exact o7.2.2.2.1
                      · rw [arr 44 (by decide) (by decide)]; exact o7.2.2.2.2
                      · exact ex_in_c _ _ (fun i h1 (h2 : i < cn + e2.length) => ⟨((cod i (by omega)).1.trans (cod6 i (by omega)).1).trans (cod4 i (by omega)).1, ((cod i (by omega)).2.trans (cod6 i (by omega)).2).trans (cod4 i (by omega)).2⟩) o2.2.2
                      · exact ex_in_c _ _ (fun i h1 (h2 : i < cn + e2.length + e4.length) => ⟨(cod i (by omega)).1.trans (cod6 i (by omega)).1, (cod i (by omega)).2.trans (cod6 i (by omega)).2⟩) o4.2.2
                      · exact ex_in_c _ _ (fun i h1 (h2 : i < cn + e2.length + e4.length + e7.length) => ⟨(cod i (by omega)).1, (cod i (by omega)).2⟩) o7.2.2.1
                      · show cn + e2.length + e4.length + e7.length ≤ c8
                        omega
                      · exact lw_i2_w _ _ (by omega) u1
                      · rw [u2]; congr 1; show b + 1 + _ = b + (_ + 1); omega
                      · rw [u6]; congr 1; show b + 1 + _ = b + (_ + 1); omega
                  · skip
                    have zs8 : s8 = s7 := by
                      rw [← hm8, mu_f hff]
                    have zz : mu Y 4 (lwL Y n s8).2 = s7 := by rw [zs8, lwL_f hff, mu_f hff]
                    have qF : ∀ k', RM Y k' s7 → KTl sd a b cn k k' → Q none (mh g k' v pl br lo c ct pr pt cm bf bt) := fun k9 r1 r2 => q k9 (by rw [zz]; exact r1) r2 (fun w => absurd w (by rw [zz]; exact hff))
                    exact l_tlF120 (bl := b) (lo9 := cn) (b := b + 1) hs hR7 hff t2 ⟨by omega, by omega⟩ hK7 qF
                · skip
                  have zs7 : s7 = s6 := by
                    have h9 := hx7
                    rw [xp_f hff] at h9
                    injection h9 with _ h9
                    exact h9.symm
                  have zs8 : s8 = s6 := by
                    rw [← hm8, zs7, mu_f hff]
                  have zz : mu Y 4 (lwL Y n s8).2 = s6 := by rw [zs8, lwL_f hff, mu_f hff]
                  have qF : ∀ k', RM Y k' s6 → KTl sd a b cn k k' → Q none (mh g k' v pl br lo c ct pr pt cm bf bt) := fun k9 r1 r2 => q k9 (by rw [zz]; exact r1) r2 (fun w => absurd w (by rw [zz]; exact hff))
                  exact l_tlF116 (bl := b) (lo9 := cn) (b := b) hs hR6 hff h39k6 ⟨Nat.le_refl _, by omega⟩ hK6 qF
              · skip
                have zs6 : s6 = s4 := by
                  rw [← hm6, mu_f hff]
                have zs7 : s7 = s4 := by
                  have h9 := hx7
                  rw [zs6, xp_f hff] at h9
                  injection h9 with _ h9
                  exact h9.symm
                have zs8 : s8 = s4 := by
                  rw [← hm8, zs7, mu_f hff]
                have zz : mu Y 4 (lwL Y n s8).2 = s4 := by rw [zs8, lwL_f hff, mu_f hff]
                have qF : ∀ k', RM Y k' s4 → KTl sd a b cn k k' → Q none (mh g k' v pl br lo c ct pr pt cm bf bt) := fun k9 r1 r2 => q k9 (by rw [zz]; exact r1) r2 (fun w => absurd w (by rw [zz]; exact hff))
                exact l_tlF110 (bl := b) (lo9 := cn) (b := b) hs hR4 hff h39k4 ⟨Nat.le_refl _, by omega⟩ hK4 qF
            · skip
              have zs4 : s4 = s3 := by
                have h9 := hx4
                rw [xp_f hff] at h9
                injection h9 with _ h9
                exact h9.symm
              have zs6 : s6 = s3 := by
                rw [← hm6, zs4, mu_f hff]
              have zs7 : s7 = s3 := by
                have h9 := hx7
                rw [zs6, xp_f hff] at h9
                injection h9 with _ h9
                exact h9.symm
              have zs8 : s8 = s3 := by
                rw [← hm8, zs7, mu_f hff]
              have zz : mu Y 4 (lwL Y n s8).2 = s3 := by rw [zs8, lwL_f hff, mu_f hff]
              have qF : ∀ k', RM Y k' s3 → KTl sd a b cn k k' → Q none (mh g k' v pl br lo c ct pr pt cm bf bt) := fun k9 r1 r2 => q k9 (by rw [zz]; exact r1) r2 (fun w => absurd w (by rw [zz]; exact hff))
              exact l_tlF86 (bl := b) (lo9 := cn) (b := b) hs hR3 hff h39k3 ⟨Nat.le_refl _, by omega⟩ hK3 qF
          · skip
            have zs3 : s3 = s2 := by
              rw [← hm3, mu_f hff]
            have zs4 : s4 = s2 := by
              have h9 := hx4
              rw [zs3, xp_f hff] at h9
              injection h9 with _ h9
              exact h9.symm
            have zs6 : s6 = s2 := by
              rw [← hm6, zs4, mu_f hff]
            have zs7 : s7 = s2 := by
              have h9 := hx7
              rw [zs6, xp_f hff] at h9
              injection h9 with _ h9
              exact h9.symm
            have zs8 : s8 = s2 := by
              rw [← hm8, zs7, mu_f hff]
            have zz : mu Y 4 (lwL Y n s8).2 = s2 := by rw [zs8, lwL_f hff, mu_f hff]
            have qF : ∀ k', RM Y k' s2 → KTl sd a b cn k k' → Q none (mh g k' v pl br lo c ct pr pt cm bf bt) := fun k9 r1 r2 => q k9 (by rw [zz]; exact r1) r2 (fun w => absurd w (by rw [zz]; exact hff))
            exact l_tlF80 (bl := b) (lo9 := cn) (b := b) hs hR2 hff h39k2 ⟨Nat.le_refl _, by omega⟩ hK2 qF
        · skip
          have zs2 : s2 = s1 := by
            have h9 := hx2
            rw [xp_f hff] at h9
            injection h9 with _ h9
            exact h9.symm
          have zs3 : s3 = s1 := by
            rw [← hm3, zs2, mu_f hff]
          have zs4 : s4 = s1 := by
            have h9 := hx4
            rw [zs3, xp_f hff] at h9
            injection h9 with _ h9
            exact h9.symm
          have zs6 : s6 = s1 := by
            rw [← hm6, zs4, mu_f hff]
          have zs7 : s7 = s1 := by
            have h9 := hx7
            rw [zs6, xp_f hff] at h9
            injection h9 with _ h9
            exact h9.symm
          have zs8 : s8 = s1 := by
            rw [← hm8, zs7, mu_f hff]
          have zz : mu Y 4 (lwL Y n s8).2 = s1 := by rw [zs8, lwL_f hff, mu_f hff]
          have qF : ∀ k', RM Y k' s1 → KTl sd a b cn k k' → Q none (mh g k' v pl br lo c ct pr pt cm bf bt) := fun k9 r1 r2 => q k9 (by rw [zz]; exact r1) r2 (fun w => absurd w (by rw [zz]; exact hff))
          exact l_tlF53 (bl := b) (lo9 := cn) (b := b) hs hR1 hff h39k1 ⟨Nat.le_refl _, by omega⟩ hK1 qF h45k1 (Nat.le_refl _)
      · refine aw_eq rfl (fun _ => ?_) (fun c => absurd (by decide) c)
        rw [if_neg (fun w => e33 hf w.2)] at q
        exact l_tlE hs ha hR h19 h39 h45 (by omega) hlo (fun w => (hok w).1) q
    · rw [lwL_f hf, mu_f hf] at q
      exact l_tlF12 (b := b) hs hR hf h39 ⟨Nat.le_refl _, hb.2⟩ KTl.rf (fun k1 r1 r2 => q k1 r1 r2 (fun w => absurd w hf))
end C1
