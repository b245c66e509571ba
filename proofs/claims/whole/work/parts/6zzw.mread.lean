/-! ===== the reference: read, its loop of tells, its judgement ===== -/
theorem tls_g {Y : Tk} : ∀ m D s, (s.2.1.1 = 0 → s.2.2.1 = 0 → gD D) → (tls Y m D s).2.2.1.1 = 0 → (tls Y m D s).2.2.2.1 = 0 → gD (tls Y m D s).1 := by
  intro m
  induction m with
  | zero => intro D s h h1 h2; exact h h1 h2
  | succ m ih =>
    intro D s h
    rw [tls]
    split
    · rename_i hc
      exact ih _ _ (fun h1 h2 => tl_g h1 (fun z => h hc.1 z) h2)
    · exact h
theorem gD_0 : gD D0 := ⟨by decide, by decide, by decide, by decide, fun i _ => ⟨Nat.zero_le _, Nat.zero_le _⟩, fun x hx => absurd hx (by unfold D0; exact List.not_mem_nil)⟩
theorem rd_g {Y : Tk} (h1 : (rd Y).2.2.1.1 = 0) (h2 : (rd Y).2.2.2.1 = 0) : gD (rd Y).1 := tls_g 401 D0 s00 (fun _ _ => gD_0) h1 h2
section C1
variable {g : am_H} {k : Mk} {v pl : Nat → Int32} {br lo : Int32} {c ct pr pt cm bf bt : Nat → Int32}
variable {Y : Tk} {s : Ps}
variable {sd n : Nat} {x : Nat → Int32}
set_option maxRecDepth 4000 in
theorem l_rl {Q : Option Value → am_H → Prop} {o1 : Option Value} (hs : sd < 2) (hYN : YNm Y) : ∀ m D s k, RM Y k s → k.1 19 = nI sd → (s.2.1.1 = 0 → ∃ b cn, MD sd k D s.1 b cn) → (s.2.1.1 = 0 → s.2.2.1 = 0 → rwE D.1) → (s.2.1.1 = 0 → 401 ≤ m + s.1) → (∀ k', RM Y k' (tls Y m D s).2 → KP k k' → SDf (1 - sd) k k' → ((tls Y m D s).2.2.1.1 = 0 → (∃ b cn, MD sd k' (tls Y m D s).1 (tls Y m D s).2.1 b cn) ∧ ((tls Y m D s).2.2.2.1 = 0 → rwE (tls Y m D s).1.1) ∧ Y.1 (tls Y m D s).2.1 = 0) → AW am_P 7 147 194 134 [some (.ref 121), o1] [] (mh g k' v pl br lo c ct pr pt cm bf bt) Q) → AW am_P 7 147 194 112 [some (.ref 121), o1] [] (mh g k v pl br lo c ct pr pt cm bf bt) Q := by
  intro m
  induction m with
  | zero =>
    intro D s k hR h19 hD hE hm q
    have hf8 := hR.2.2.1
    have h400 := hR.2.1
    refine aw rfl rfl ?_
    refine aw_getfE rfl mg_121 rfl (congrArg Value.int hR.2.2.2.1) ?_
    refine aw_nen rfl (fun c116 => ?_) (fun c116 => absurd (hm c116) (by omega))
    exact q k hR KP.rf SDf.rf (fun w => absurd w c116)
  | succ m ih =>
    intro D s k hR h19 hD hE hm q
    have hf8 := hR.2.2.1
    have h400 := hR.2.1
    rw [tls] at q
    refine aw rfl rfl ?_
    refine aw_getfE rfl mg_121 rfl (congrArg Value.int hR.2.2.2.1) ?_
    refine aw_nen rfl (fun c116 => ?_) (fun c116 => ?_)
    · rw [if_neg (fun w => c116 w.1)] at q
      exact q k hR KP.rf SDf.rf (fun w => absurd w c116)
    · refine aw rfl rfl ?_
      refine aw_c (v := nI 0) rfl (by decide) ?_
      refine aw_cv (d1 := 0) (L1 := 0) rfl rfl mg_121 rfl rfl (by decide) (by decide) (Nat.le_of_ble_eq_true rfl) (c_X11_is hR (by decide) (fun hf e => ?_) (fun e => ?_))
      · refine aw_ne rfl (fun _ => ?_) (fun c => absurd c (by decide))
        rw [if_neg (fun w => w.2 e)] at q
        exact q k hR KP.rf SDf.rf (fun w => ⟨hD w, fun z => hE w z, e⟩)
      · refine aw_ne rfl (fun c => absurd (by decide) c) (fun _ => ?_)
        refine aw rfl rfl ?_
        refine aw_cv (d1 := 6) (L1 := 126) rfl rfl mg_121 rfl rfl (by decide) (by decide) (Nat.le_of_ble_eq_true rfl) (c_X11_tellOne hs hYN hR c116 (e c116) h19 (hD c116).choose_spec.choose_spec (fun k1 hR1 hk1 hs1 hD1 => ?_))
        refine aw rfl rfl ?_
        rw [if_pos ⟨c116, e c116⟩] at q
        exact ih _ _ k1 hR1 (by rw [hk1.1 19 (by omega)]; exact h19) hD1 (fun w z => tl_E w (fun z2 => hE c116 z2) z) (fun w => by have h1 := (tl_mm w).1; have h2 := hm c116; omega) (fun k2 hR2 hk2 hs2 hf2 => q k2 hR2 (hk1.tr hk2) (hs1.tr hs2) hf2)
theorem sp9_of {sd : Nat} {k : Mk} {D : Dt} (hs : sd < 2) (hR : MRo sd k D.1) (hE : rwE D.1) {a e : Nat} (ha : a < (D.1.headD []).length) (he : e < D.1.length) : k.2.1 24 (32 * sd + 8 * e + a) = soL ((D.1.getD e []).getD a 0) := by
  obtain ⟨r1, r2, r3, r4⟩ := hR
  have hm : D.1.getD e [] ∈ D.1 := gd_mem he
  exact (r4 e he).2 a (by rw [hE _ hm]; exact ha)
theorem ps_end {t : Nat} (h : lK x n (ps9 x n t) = 0) : ps9 x n t = n := by
  have h1 := ps_hi (x := x) (n := n) t
  unfold lK at h
  split at h
  · omega
  · split at h
    · unfold wkC at h
      split at h
      · omega
      · split at h <;> omega
    · split at h
      · split at h <;> omega
      · have := sgC_3 (x (ps9 x n t)); omega
set_option maxRecDepth 4000 in
theorem l_r2 {Q : Option Value → am_H → Prop} {o1 : Option Value} (hs : sd < 2) (hR : RM (tkS x n) k (rd (tkS x n)).2) (h19 : k.1 19 = nI sd) (hfin : (rd (tkS x n)).2.2.1.1 = 0 → (∃ b cn, MD sd k (rd (tkS x n)).1 (rd (tkS x n)).2.1 b cn) ∧ ((rd (tkS x n)).2.2.2.1 = 0 → rwE (rd (tkS x n)).1.1) ∧ (tkS x n).1 (rd (tkS x n)).2.1 = 0) (hgD : (rd (tkS x n)).2.2.1.1 = 0 → (rd (tkS x n)).2.2.2.1 = 0 → gD (rd (tkS x n)).1) (q0 : ¬ (rdR (tkS x n) n).1 = 0 → ∀ k', KP k k' → SDf (1 - sd) k k' → Q (some (.int (nI (rdR (tkS x n) n).1))) (mh g (va_up k'.1 17 (rdR (tkS x n) n).2, k'.2.1, k'.2.2) v pl br lo c ct pr pt cm bf bt)) (q1 : (rdR (tkS x n) n).1 = 0 → ∀ b cn, MD sd k (rd (tkS x n)).1 (rd (tkS x n)).2.1 b cn → (rd (tkS x n)).2.1 ≤ 400 → AW am_P 7 147 194 257 [some (.ref 121), o1] [] (mh g (va_up k.1 17 (-1), k.2.1, k.2.2) v pl br lo c ct pr pt cm bf bt) Q) : AW am_P 7 147 194 134 [some (.ref 121), o1] [] (mh g k v pl br lo c ct pr pt cm bf bt) Q := by
  have hf8 := hR.2.2.1
  have hF := hR.2.2.2.1
  by_cases hf : (rd (tkS x n)).2.2.1.1 = 0
  · obtain ⟨h11, hz, hl8, h15, h16⟩ := hR.2.2.2.2.1 hf
    by_cases hl : (rd (tkS x n)).2.2.2.1 = 0
    · obtain ⟨⟨b, cn, hD⟩, hE, h0⟩ := hfin hf
      have hE := hE hl
      obtain ⟨gf, gl, gt, gs, gp, gk⟩ := hgD hf hl
      obtain ⟨dA, dB, dR, dW⟩ := hD
      have hD : MD sd k (rd (tkS x n)).1 (rd (tkS x n)).2.1 b cn := ⟨dA, dB, dR, dW⟩
      obtain ⟨p1, p2, p3, p4, p5, p6⟩ := dA
      have q3 := dB.1
      have q4 := dB.2.2.1
      have r1 := dR.1
      have r2 := dR.2.1
      have r3 := dR.2.2.1
      have h8w : ((rd (tkS x n)).1.1.headD []).length ≤ 8 := by
        cases hD1 : (rd (tkS x n)).1.1 with
        | nil => exact Nat.zero_le 8
        | cons x r => have := (dR.2.2.2 0 (by rw [hD1]; exact Nat.succ_pos _)).1; rw [hD1] at this; exact this
      have g0 := gp 0 (by decide)
      have g1 := gp 1 (by decide)
      have g2 := gp 2 (by decide)
      have e7 : fl (tkS x n) 7 (rd (tkS x n)).2 = ((rd (tkS x n)).2.1, (7, (tkS x n).2.1 (rd (tkS x n)).2.1), (rd (tkS x n)).2.2.2) := if_pos hf
      have hpl : (tkS x n).2.1 (rd (tkS x n)).2.1 = n := ps_end h0
      have hbad : whB (rd (tkS x n)).1 = false → ∀ k1, RM (tkS x n) k1 (fl (tkS x n) 7 (rd (tkS x n)).2) → KP k k1 → SDf (1 - sd) k k1 → AW am_P 7 147 194 200 [some (.ref 121), o1] [] (mh g k1 v pl br lo c ct pr pt cm bf bt) Q := by
        intro hW k1 hR1 hk1 hs1
        have eR : rdR (tkS x n) n = (7, nI n) := by
          unfold rdR
          rw [if_neg (fun w => w hf), if_neg (fun w => w hl), if_neg (by rw [hW]; decide)]
        rw [eR] at q0
        have h13 : k1.1 13 = nI 7 := by rw [hR1.2.2.2.1, e7]
        have h14 : k1.1 14 = nI n := by
          have := (hR1.2.2.2.2.2 (fl_0 (by decide))).1
          rw [e7, hpl] at this
          exact this
        refine aw rfl rfl ?_
        refine aw rfl rfl ?_
        refine aw_getfE rfl mg_121 rfl (congrArg Value.int h13) ?_
        refine aw_le rfl (fun c => absurd c (by decide)) (fun _ => ?_)
        refine aw rfl rfl ?_
        refine aw_getfE rfl mg_121 rfl (congrArg Value.int h14) ?_
        refine aw rfl rfl ?_
        refine aw_putfU rfl mg_121 rfl rfl (by decide) mp_17 ?_
        refine aw rfl rfl ?_
        refine aw_getfE rfl mg_121 rfl (congrArg Value.int h13) ?_
        refine aw_le rfl (fun c => absurd c (by decide)) (fun _ => ?_)
        refine aw rfl rfl ?_
        refine aw_getfE rfl mg_121 rfl (congrArg Value.int h13) ?_
        exact aw_iret rfl rfl (q0 (fun w => absurd w (show ¬ 7 = 0 by decide)) k1 hk1 hs1)
      refine aw rfl rfl ?_
      refine aw_getfE rfl mg_121 rfl (congrArg Value.int hF) ?_
      refine aw_nen rfl (fun c138 => absurd hf c138) (fun c138 => ?_)
      refine aw rfl rfl ?_
      refine aw_getfE rfl mg_121 rfl (congrArg Value.int h15) ?_
      refine aw_nen rfl (fun c145 => absurd hl c145) (fun c145 => ?_)
      refine aw rfl rfl ?_
      refine aw_getf rfl mg_121 rfl ?_
      refine aw rfl rfl ?_
      refine aw_getfE rfl mg_121 rfl (congrArg Value.int h19) ?_
      refine aw_ialdE rfl mg_130 rfl (by omega) (by decide) r1 ?_
      refine aw_eqn rfl (fun c157 => ?_) (fun c157 => ?_)
      · refine aw rfl rfl ?_
        refine aw_c (v := nI 7) rfl (by decide) ?_
        refine aw_cv (d1 := 0) (L1 := 0) rfl rfl mg_121 rfl rfl (by decide) (by decide) (Nat.le_of_ble_eq_true rfl) (c_X11_fail hR (by decide) (fun k1 hR1 hk1 => ?_))
        refine hbad ?_ k1 hR1 hk1.kp hk1.sd
        unfold whB
        rw [decide_eq_false (fun w => by omega)]
        rfl
      · refine aw rfl rfl ?_
        refine aw_getf rfl mg_121 rfl ?_
        refine aw rfl rfl ?_
        refine aw_getfE rfl mg_121 rfl (congrArg Value.int h19) ?_
        refine aw_ialdE rfl mg_134 rfl (by omega) (by decide) q3 ?_
        refine aw_eqn rfl (fun c169 => ?_) (fun c169 => ?_)
        · refine aw rfl rfl ?_
          refine aw_c (v := nI 7) rfl (by decide) ?_
          refine aw_cv (d1 := 0) (L1 := 0) rfl rfl mg_121 rfl rfl (by decide) (by decide) (Nat.le_of_ble_eq_true rfl) (c_X11_fail hR (by decide) (fun k1 hR1 hk1 => ?_))
          refine hbad ?_ k1 hR1 hk1.kp hk1.sd
          unfold whB
          rw [decide_eq_false (fun w => by omega)]
          rfl
        · refine aw rfl rfl ?_
          refine aw rfl rfl ?_
          refine aw_getf rfl mg_121 rfl ?_
          refine aw_cv (d1 := 0) (L1 := 0) rfl rfl mg_121 rfl rfl (by decide) (by decide) (Nat.le_of_ble_eq_true rfl) (c_mth32 hs h19 (p5 0 (by decide)) (p5 1 (by decide)) (p5 2 (by decide)) (by omega) r3 r1 p1 (by omega) (fun t1 t2 t3 t4 t5 => ?_) (fun z1 => ?_))
          · refine aw_eq rfl (fun c => absurd c (by decide)) (fun _ => ?_)
            have hs1 : spB9 (rd (tkS x n)).1 (rd (tkS x n)).1.2.2.2.1 = true := decide_eq_true ⟨t1, t2, t3, by rw [← sp9_of hs dR hE t1 t2]; exact t4, by rw [← sp9_of hs dR hE t1 t2]; exact t5⟩
            refine aw rfl rfl ?_
            refine aw rfl rfl ?_
            refine aw_getf rfl mg_121 rfl ?_
            refine aw_cv (d1 := 0) (L1 := 0) rfl rfl mg_121 rfl rfl (by decide) (by decide) (Nat.le_of_ble_eq_true rfl) (c_mth33 hs h19 (p6 0 (by decide)) (p6 1 (by decide)) (p6 2 (by decide)) (by omega) r3 r1 p1 (by omega) (fun t1 t2 t3 t4 t5 => ?_) (fun z2 => ?_))
            · refine aw_ne rfl (fun _ => ?_) (fun c => absurd c (by decide))
              have hs2 : spB9 (rd (tkS x n)).1 (rd (tkS x n)).1.2.2.2.2.1 = true := decide_eq_true ⟨t1, t2, t3, by rw [← sp9_of hs dR hE t1 t2]; exact t4, by rw [← sp9_of hs dR hE t1 t2]; exact t5⟩
              have hW : whB (rd (tkS x n)).1 = true := by
                unfold whB
                rw [hs1, hs2, decide_eq_true ⟨by omega, by omega⟩]
                rfl
              have eR : rdR (tkS x n) n = (0, -1) := by
                unfold rdR
                rw [if_neg (fun w => w hf), if_neg (fun w => w hl), if_pos hW]
              rw [eR] at q1
              refine aw rfl rfl ?_
              refine aw rfl rfl ?_
              refine aw_getfE rfl mg_121 rfl (congrArg Value.int (hF.trans (congrArg nI hf))) ?_
              refine aw_le rfl (fun _ => ?_) (fun c => absurd (by decide) c)
              refine aw rfl rfl ?_
              refine aw_getfE rfl mg_121 rfl (congrArg Value.int (h15.trans (congrArg nI hl))) ?_
              refine aw_le rfl (fun _ => ?_) (fun c => absurd (by decide) c)
              refine aw_c (v := -1) rfl (by decide) ?_
              refine aw_putfU rfl mg_121 rfl rfl (by decide) mp_17 ?_
              refine aw rfl rfl ?_
              refine aw_getfE rfl mg_121 rfl (congrArg Value.int (hF.trans (congrArg nI hf))) ?_
              refine aw_le rfl (fun _ => ?_) (fun c => absurd (by decide) c)
              refine aw rfl rfl ?_
              refine aw_getfE rfl mg_121 rfl (congrArg Value.int (h15.trans (congrArg nI hl))) ?_
              refine aw_le rfl (fun _ => ?_) (fun c => absurd (by decide) c)
              exact q1 rfl b cn hD hR.2.1
            · refine aw_ne rfl (fun c => absurd (by decide) c) (fun _ => ?_)
              refine aw rfl rfl ?_
              refine aw_c (v := nI 7) rfl (by decide) ?_
              refine aw_cv (d1 := 0) (L1 := 0) rfl rfl mg_121 rfl rfl (by decide) (by decide) (Nat.le_of_ble_eq_true rfl) (c_X11_fail hR (by decide) (fun k1 hR1 hk1 => ?_))
              refine hbad ?_ k1 hR1 hk1.kp hk1.sd
              have hs2 : spB9 (rd (tkS x n)).1 (rd (tkS x n)).1.2.2.2.2.1 = false := decide_eq_false (fun w => z2 ⟨w.1, w.2.1, w.2.2.1, by rw [sp9_of hs dR hE w.1 w.2.1]; exact w.2.2.2.1, by rw [sp9_of hs dR hE w.1 w.2.1]; exact w.2.2.2.2⟩)
              unfold whB
              rw [hs2, Bool.and_false]
          · refine aw_eq rfl (fun _ => ?_) (fun c => absurd (by decide) c)
            refine aw rfl rfl ?_
            refine aw_c (v := nI 7) rfl (by decide) ?_
            refine aw_cv (d1 := 0) (L1 := 0) rfl rfl mg_121 rfl rfl (by decide) (by decide) (Nat.le_of_ble_eq_true rfl) (c_X11_fail hR (by decide) (fun k1 hR1 hk1 => ?_))
            refine hbad ?_ k1 hR1 hk1.kp hk1.sd
            have hs1 : spB9 (rd (tkS x n)).1 (rd (tkS x n)).1.2.2.2.1 = false := decide_eq_false (fun w => z1 ⟨w.1, w.2.1, w.2.2.1, by rw [sp9_of hs dR hE w.1 w.2.1]; exact w.2.2.2.1, by rw [sp9_of hs dR hE w.1 w.2.1]; exact w.2.2.2.2⟩)
            unfold whB
            rw [hs1, Bool.and_false]
            rfl
    · have eR : rdR (tkS x n) n = ((rd (tkS x n)).2.2.2.1, nI (rd (tkS x n)).2.2.2.2) := by
        unfold rdR
        rw [if_neg (fun w => w hf), if_pos hl]
      rw [eR] at q0
      refine aw rfl rfl ?_
      refine aw_getfE rfl mg_121 rfl (congrArg Value.int (hF.trans (congrArg nI hf))) ?_
      refine aw_ne rfl (fun c => absurd (by decide) c) (fun _ => ?_)
      refine aw rfl rfl ?_
      refine aw_getfE rfl mg_121 rfl (congrArg Value.int h15) ?_
      refine aw_nen rfl (fun c145 => ?_) (fun c145 => absurd c145 hl)
      refine aw rfl rfl ?_
      refine aw rfl rfl ?_
      refine aw_getfE rfl mg_121 rfl (congrArg Value.int (hF.trans (congrArg nI hf))) ?_
      refine aw_le rfl (fun _ => ?_) (fun c => absurd (by decide) c)
      refine aw rfl rfl ?_
      refine aw_getfE rfl mg_121 rfl (congrArg Value.int h15) ?_
      refine aw_len rfl (fun c219 => by omega) (fun c219 => ?_)
      refine aw rfl rfl ?_
      refine aw_getfE rfl mg_121 rfl (congrArg Value.int (h16 hl).1) ?_
      refine aw rfl rfl ?_
      refine aw_putfU rfl mg_121 rfl rfl (by decide) mp_17 ?_
      refine aw rfl rfl ?_
      refine aw_getfE rfl mg_121 rfl (congrArg Value.int (hF.trans (congrArg nI hf))) ?_
      refine aw_le rfl (fun _ => ?_) (fun c => absurd (by decide) c)
      refine aw rfl rfl ?_
      refine aw_getfE rfl mg_121 rfl (congrArg Value.int h15) ?_
      refine aw_len rfl (fun c249 => by omega) (fun c249 => ?_)
      refine aw rfl rfl ?_
      refine aw_getfE rfl mg_121 rfl (congrArg Value.int h15) ?_
      exact aw_iret rfl rfl (q0 hl k KP.rf SDf.rf)
  · have eR : rdR (tkS x n) n = ((rd (tkS x n)).2.2.1.1, nI (rd (tkS x n)).2.2.1.2) := by
      unfold rdR
      rw [if_pos hf]
    rw [eR] at q0
    obtain ⟨h14, _, _⟩ := hR.2.2.2.2.2 hf
    refine aw rfl rfl ?_
    refine aw_getfE rfl mg_121 rfl (congrArg Value.int hF) ?_
    refine aw_nen rfl (fun c138 => ?_) (fun c138 => absurd c138 hf)
    refine aw rfl rfl ?_
    refine aw rfl rfl ?_
    refine aw_getfE rfl mg_121 rfl (congrArg Value.int hF) ?_
    refine aw_len rfl (fun c205 => by omega) (fun c205 => ?_)
    refine aw rfl rfl ?_
    refine aw_getfE rfl mg_121 rfl (congrArg Value.int h14) ?_
    refine aw rfl rfl ?_
    refine aw_putfU rfl mg_121 rfl rfl (by decide) mp_17 ?_
    refine aw rfl rfl ?_
    refine aw_getfE rfl mg_121 rfl (congrArg Value.int hF) ?_
    refine aw_len rfl (fun c237 => by omega) (fun c237 => ?_)
    refine aw rfl rfl ?_
    refine aw_getfE rfl mg_121 rfl (congrArg Value.int hF) ?_
    exact aw_iret rfl rfl (q0 hf k KP.rf SDf.rf)
end C1
