/-! ===== the class: scratches weighed (2), rows of kicks that fit ===== -/
theorem aw_acpy {d L M pc nx b idx n dp sp p q n0 n1 : Nat} {ls : List (Option Value)} {h : am_H} {Q : Option Value → am_H → Prop} {f g : Nat → Int32} {r : List Value} (hf : am_at (am_P M).2.2.2 pc = some (.invokestatic idx, nx, 998, b)) (hp : h.2.2 p = am_ints n0 f) (hq : h.2.2 q = am_ints n1 g) (hn : n < 100000) (hdp : dp < 100000) (hsp : sp < 100000) (h1 : sp + n ≤ n0) (h2 : dp + n ≤ n1) (h8 : 8 ≤ p) (h9 : 8 ≤ q) (hd : 1 ≤ d) (hL : am_cat r + 40 ≤ L) (k : AW am_P d L M nx ls r (am_up h q (am_ints n1 (va_cpy f g sp dp n))) Q) : AW am_P d L M pc ls (.int (nI n) :: .int (nI dp) :: .ref q :: .int (nI sp) :: .ref p :: r) h Q := by
  refine aw hf ?_ k
  show am_cA (h.2.2 p) 0 (fun n0 f => am_cA (h.2.2 q) 0 fun n1 g =>
        if nI n < 0 ∨ nI dp < 0 ∨ nI sp < 0 ∨ n0 < (nI sp).toNatClampNeg + (nI n).toNatClampNeg ∨ n1 < (nI dp).toNatClampNeg + (nI n).toNatClampNeg ∨ p < 8 ∨ q < 8 ∨ d < 1 ∨ L < am_cat r + 40 then none
        else some (.inl (nx, ls, r, am_up h q (.inr (0, n1, .inl (va_cpy f g (nI sp).toNatClampNeg (nI dp).toNatClampNeg (nI n).toNatClampNeg)))))) = _
  rw [hp, hq]
  show (if nI n < 0 ∨ nI dp < 0 ∨ nI sp < 0 ∨ n0 < (nI sp).toNatClampNeg + (nI n).toNatClampNeg ∨ n1 < (nI dp).toNatClampNeg + (nI n).toNatClampNeg ∨ p < 8 ∨ q < 8 ∨ d < 1 ∨ L < am_cat r + 40 then none
        else some (.inl (nx, ls, r, am_up h q (.inr (0, n1, .inl (va_cpy f g (nI sp).toNatClampNeg (nI dp).toNatClampNeg (nI n).toNatClampNeg))))) : am_O) = _
  rw [nI_clamp (by omega), nI_clamp (by omega), nI_clamp (by omega), if_neg]
  rintro (z | z | z | z | z | z | z | z | z)
  · exact nI_pos (by omega) z
  · exact nI_pos (by omega) z
  · exact nI_pos (by omega) z
  all_goals omega
def WYr (T : Sd) (LW : LWt) (TD : Nat → Nat) (c : Nat → Int32) (k : Nat) : Prop := ∀ i, i < k → ∀ j, j < T.1 3 → ∀ f f', f < 3 → f' < 3 → c ((i * 4 + j) * 9 + f * 3 + f') = nI (wyV T LW (sqI T TD i) (TD i) j (nI (i * T.1 5)) f f')
section C1
variable {g : am_H} {T0 T1 T : Sd} {u0 u1 : Ua} {K : Ck} {rf : Nat → Nat} {p : Nat} {S : Nat → Nat} {u td nt cc : Nat} {P Z : Nat → Nat → Nat} {TD : Nat → Nat} {hd : Nat → Bool} {tp : Nat → Int32} {pc : Int32} {W : Nat → Lw}
variable {no na : Nat} {lf : Nat → Nat}
theorem CS.w (hC : CS g T0 u0 T1 u1 K rf p T W S u P td TD hd Z nt tp pc cc) {v0 v1 : Ua} {K' : Ck} (hkf : KF K K' [26, 27] [115, 116, 117] (fun _ => False)) : CS g T0 v0 T1 v1 K' rf p T W S u P td TD hd Z nt tp pc cc := by
  refine hC.up hkf (fun n h1 h2 => by simp; omega) (fun n h1 => by rcases h1 with rfl | rfl | rfl | rfl <;> simp) ⟨?_, ?_, ?_, ?_, ?_, ?_⟩ hC.2.2.2.2.2.2.1 hC.2.2.2.2.2.2.2.1 hC.2.2.2.2.2.2.2.2.1 hC.2.2.2.2.2.2.2.2.2
  · rw [hkf.2.2.1 46 (by simp)]; exact hC.st
  · obtain ⟨b1, b2, nx, b3, b4, b5⟩ := hC.ps
    exact ⟨b1, (hkf.1 17 (by simp)).trans b2, nx, b3, (hkf.1 16 (by simp)).trans b4, fun i hi => by rw [hkf.2.2.1 _ (by simp)]; exact b5 i hi⟩
  · intro s hs; rw [hkf.2.2.1 _ (by simp)]; exact hC.sl s hs
  · rw [hkf.1 25 (by simp), hkf.2.1 114 (by simp)]; exact hC.tdr
  · rw [hkf.1 0 (by simp), hkf.2.1 9 (by simp)]; exact hC.ta
  · rw [hkf.1 1 (by simp)]; exact hC.pl
theorem va_tw2 {α : Type} {f : Nat → α} {i : Nat} {x z : α} : va_up (va_up f i x) i z = va_up f i z := by
  funext n
  unfold va_up
  by_cases e : n = i
  · rw [if_pos e, if_pos e]
  · rw [if_neg e, if_neg e, if_neg e]
theorem c_X5_weigh {Q : Option Value → am_H → Prop} (hC : CS g T0 u0 T1 u1 K rf p T W S u P td TD hd Z nt tp pc cc) {k : Nat} (hk : k ≤ td) (q : ∀ y u0 u1, WYr T (lwf W) TD y k → Q none (ch g T0 u0 T1 u1 (va_up (va_up K.1 26 (nI (T.1 3))) 27 (nI (stF T)), va_up K.2.1 115 y, K.2.2) rf)) : AC am_P 5 129 73 [.ref 113, .ref p, .int (nI k)] (ch g T0 u0 T1 u1 K rf) Q := by
  refine AC.of (ls := [_, _, _, _, _, _]) rfl ?_
  have hp := hC.cx.1
  have hG := hC.cx.2.1
  have hG0 := hG
  obtain ⟨⟨g0, g0x⟩, ⟨g1, g1x⟩, ⟨g2, g2x⟩, ⟨g3, g3x⟩, g4, ⟨g5, g5x⟩, g6, gsq, goc, gwt, gsp, gfr⟩ := hG
  obtain ⟨s0, s1, s2, s3, s4, s5, s6⟩ := hC.sc
  have hl96 := s0.1
  obtain ⟨t5, t63, tin⟩ := hC.tdr
  obtain ⟨sa9, se9, sf9, z0, z1, z2, z3, z4, z5, z6⟩ := gsp
  have hst : stS T = se9 * 8 + sa9 := by unfold stS; rw [z0, z1, nI_clamp (by omega), nI_clamp (by omega)]
  have hsf : stF T = sf9 := by unfold stF; rw [z2, nI_clamp (by omega)]
  refine aw rfl rfl ?_
  refine aw rfl rfl ?_
  refine aw_getf rfl (sa hp).1 rfl ?_
  refine aw_putfU rfl cg_113 rfl rfl (by decide) cp_113_3 ?_
  refine aw rfl rfl ?_
  refine aw rfl rfl ?_
  refine aw_cv (d1 := 1) (L1 := 21) rfl rfl (sa hp).1 rfl rfl (by decide) (by decide) (Nat.le_of_ble_eq_true rfl) (c_X7_stoneLie (sa hp) z0 z1 z2 ?_)
  refine aw_c (v := nI 3) rfl (by decide) ?_
  refine aw_remn rfl (by omega) (by omega) (by omega) ?_
  rw [show ((se9 * 8 + sa9) * 3 + sf9) % 3 = stF T by rw [hsf]; omega]
  refine aw_putfU rfl cg_113 rfl rfl (by decide) cp_113_4 ?_
  refine aw rfl rfl ?_
  refine aw_getf rfl cg_113 rfl ?_
  refine aw_c (v := nI 0) rfl (by decide) ?_
  refine aw_cs (d1 := 0) (L1 := 0) rfl rfl (by decide) (by decide) (Nat.le_of_ble_eq_true rfl) (c_fill cg_115 (by decide) (by decide) (fun f9 hf9 => ?_))
  unfold am_ints
  rw [cu_115]
  refine aw_c (v := nI 0) rfl (by decide) ?_
  refine aw_ist (ls' := [_, _, _, _, _, _]) rfl rfl ?_
  refine aw_loop (α := ((Nat → Int32) × Ua × Ua) × Option Value × Option Value) (ll := fun i y => [some (.ref 113), some (.ref p), some (.int (nI k)), some (.int (nI i)), y.2.1, y.2.2]) (hh := fun i y => (ch g T0 y.1.2.1 T1 y.1.2.2 (va_up (va_up K.1 26 (nI (T.1 3))) 27 (nI (stF T)), va_up K.2.1 115 y.1.1, K.2.2) rf)) (I := fun i y => (∀ i', i' < i → ∀ j, j < T.1 3 → ∀ f f', f < 3 → f' < 3 → y.1.1 ((i' * 4 + j) * 9 + f * 3 + f') = nI (wyV T (lwf W) (sqI T TD i') (TD i') j (nI (i' * T.1 5)) f f')) ∧ (∀ n, i * 36 ≤ n → n < 180 → y.1.1 n = nI 0)) (N := k) (fun i y hi hI ihi => ?_) (fun y hI => ?_) 0 ((f9, u0, u1), none, none) (Nat.zero_le _) ⟨fun i2 h => absurd h (Nat.not_lt_zero _), fun n _ h2 => hf9 n h2⟩
  · skip
    obtain ⟨⟨y, u0, u1⟩, l4, l5⟩ := y
    obtain ⟨ii1, ii2⟩ := hI
    dsimp only at ii1 ii2 ⊢
    by_cases e0 : i = 0
    · skip
      refine aw rfl rfl ?_
      refine aw rfl rfl ?_
      refine aw_igen rfl (fun c30 => by omega) (fun c30 => ?_)
      refine aw rfl rfl ?_
      refine aw_c (v := nI 5) rfl (by decide) ?_
      refine aw_igen rfl (fun c35 => by omega) (fun c35 => ?_)
      refine aw rfl rfl ?_
      refine aw_nen rfl (fun c39 => by omega) (fun c39 => ?_)
      refine aw rfl rfl ?_
      refine aw_cv (d1 := 1) (L1 := 21) rfl rfl (sa hp).1 rfl rfl (by decide) (by decide) (Nat.le_of_ble_eq_true rfl) (c_X7_stoneLie (sa hp) z0 z1 z2 ?_)
      refine aw_c (v := nI 3) rfl (by decide) ?_
      refine aw_divn rfl (by omega) (by omega) (by omega) ?_
      refine aw rfl rfl ?_
      rw [show ((se9 * 8 + sa9) * 3 + sf9) / 3 = sqI T TD i from by rw [e0]; show _ = stS T; rw [hst]; omega]
      refine aw_ist (ls' := [_, _, _, _, _, _]) rfl rfl ?_
      refine aw_c (v := nI 0) rfl (by decide) ?_
      refine aw_ist (ls' := [_, _, _, _, _, _]) rfl rfl ?_
      have hsq : sqI T TD i < 32 := by rw [e0]; show stS T < 32; omega
      refine aw_loop (α := (Nat → Int32) × Ua × Ua) (ll := fun j y => [some (.ref 113), some (.ref p), some (.int (nI k)), some (.int (nI i)), some (.int (nI (sqI T TD i))), some (.int (nI j))]) (hh := fun j y => (ch g T0 y.2.1 T1 y.2.2 (va_up (va_up K.1 26 (nI (T.1 3))) 27 (nI (stF T)), va_up K.2.1 115 y.1, K.2.2) rf)) (I := fun j y => (∀ i', i' < i → ∀ j, j < T.1 3 → ∀ f f', f < 3 → f' < 3 → y.1 ((i' * 4 + j) * 9 + f * 3 + f') = nI (wyV T (lwf W) (sqI T TD i') (TD i') j (nI (i' * T.1 5)) f f')) ∧ (∀ j', j' < j → ∀ f f', f < 3 → f' < 3 → y.1 ((i * 4 + j') * 9 + f * 3 + f') = nI (wyV T (lwf W) (sqI T TD i) (TD i) j' (nI (i * T.1 5)) f f')) ∧ (∀ n, (i * 4 + j) * 9 ≤ n → n < 180 → y.1 n = nI 0)) (N := T.1 3) (fun j y hj hIj ihj => ?_) (fun y hIj => ?_) 0 (y, u0, u1) (Nat.zero_le _) ⟨ii1, fun j2 h => absurd h (Nat.not_lt_zero _), fun n h1 h2 => ii2 n (by omega) h2⟩
      · skip
        obtain ⟨y, u0, u1⟩ := y
        obtain ⟨ij1, ij2, ij3⟩ := hIj
        dsimp only at ij1 ij2 ij3 ⊢
        have hC2 : CS g T0 u0 T1 u1 (va_up (va_up K.1 26 (nI (T.1 3))) 27 (nI (stF T)), va_up K.2.1 115 y, K.2.2) rf p T W S u P td TD hd Z nt tp pc cc := hC.w ⟨fun n hn => by simp at hn; exact (vu_ot hn.2).trans (vu_ot hn.1), fun n hn => by simp at hn; exact vu_ot hn.1, fun _ _ => rfl, rfl⟩
        refine aw rfl rfl ?_
        refine aw rfl rfl ?_
        refine aw_getfE rfl cg_113 rfl (congrArg Value.int (show _ = nI (T.1 3) from rfl)) ?_
        refine aw_igen rfl (fun c70 => by omega) (fun c70 => ?_)
        refine aw rfl rfl ?_
        refine aw rfl rfl ?_
        refine aw rfl rfl ?_
        refine aw_cv (d1 := 0) (L1 := 0) rfl rfl (sa hp).1 rfl rfl (by decide) (by decide) (Nat.le_of_ble_eq_true rfl) (c_X7_canKickFrom (sa hp) hsq hj g3x (fun hck => ?_) (fun hck => ?_))
        · refine aw_eq rfl (fun c => absurd c (by decide)) (fun _ => ?_)
          refine aw rfl rfl ?_
          refine aw rfl rfl ?_
          refine aw rfl rfl ?_
          refine aw rfl rfl ?_
          refine aw rfl rfl ?_
          refine aw_cv (d1 := 4) (L1 := 100) rfl rfl cg_113 rfl rfl (by decide) (by decide) (Nat.le_of_ble_eq_true rfl) (c_X5_weighKick (K := (va_up (va_up K.1 26 (nI (T.1 3))) 27 (nI (stF T)), va_up K.2.1 115 y, K.2.2)) (sq := sqI T TD i) (tdi := TD i) hC2 (by omega) hj hsq hck (tin i (by omega)).1 (tin i (by omega)).2.1 (fun f f' h1 h2 => ij3 _ (by omega) (by omega)) (fun y2 u0 u1 w1 w2 => ?_))
          refine aw_incn (c := 1) (ls' := [_, _, _, _, _, _]) rfl rfl (by decide) rfl ?_
          refine aw rfl rfl ?_
          show AW am_P _ _ _ _ _ _ (ch g T0 u0 T1 u1 (_, va_up (va_up K.2.1 115 y) 115 y2, _) rf) _
          rw [show va_up (va_up K.2.1 115 y) 115 y2 = va_up K.2.1 115 y2 from va_tw2]
          refine ihj (y2, u0, u1) ⟨fun i2 h1 j2 h2 f f' h3 h4 => (w2 _ (by omega)).trans (ij1 i2 h1 j2 h2 f f' h3 h4), fun j2 h1 f f' h3 h4 => ?_, fun n h1 h2 => (w2 _ (by omega)).trans (ij3 n (by omega) h2)⟩
          by_cases e : j2 = j
          · subst e
            refine (w1 f f' h3 h4).trans (congrArg nI ?_)
            unfold wyV
            rw [nckB_iff.mpr hck]
            rfl
          · exact (w2 _ (by omega)).trans (ij2 j2 (by omega) f f' h3 h4)
        · refine aw_eq rfl (fun _ => ?_) (fun c => absurd (by decide) c)
          refine aw_incn (c := 1) (ls' := [_, _, _, _, _, _]) rfl rfl (by decide) rfl ?_
          refine aw rfl rfl ?_
          refine ihj (y, u0, u1) ⟨ij1, fun j2 h1 f f' h3 h4 => ?_, fun n h1 h2 => ij3 n (by omega) h2⟩
          by_cases e : j2 = j
          · subst e
            refine (ij3 _ (by omega) (by omega)).trans (congrArg nI ?_)
            unfold wyV
            rw [Bool.eq_false_iff.mpr (fun w => hck (nckB_iff.mp w))]
            rfl
          · exact ij2 j2 (by omega) f f' h3 h4
      · skip
        obtain ⟨y, u0, u1⟩ := y
        obtain ⟨ij1, ij2, ij3⟩ := hIj
        dsimp only at ij1 ij2 ij3 ⊢
        refine aw rfl rfl ?_
        refine aw rfl rfl ?_
        refine aw_getfE rfl cg_113 rfl (congrArg Value.int (show _ = nI (T.1 3) from rfl)) ?_
        refine aw_igen rfl (fun c70 => ?_) (fun c70 => by omega)
        refine aw_incn (c := 1) (ls' := [_, _, _, _, _, _]) rfl rfl (by decide) rfl ?_
        refine aw rfl rfl ?_
        exact ihi ((y, u0, u1), _, _) ⟨fun i2 h1 j2 h2 f f' h3 h4 => by
          by_cases e : i2 = i
          · subst e; exact ij2 j2 h2 f f' h3 h4
          · exact ij1 i2 (by omega) j2 h2 f f' h3 h4, fun n h1 h2 => ij3 n (by omega) h2⟩
    · skip
      refine aw rfl rfl ?_
      refine aw rfl rfl ?_
      refine aw_igen rfl (fun c30 => by omega) (fun c30 => ?_)
      refine aw rfl rfl ?_
      refine aw_c (v := nI 5) rfl (by decide) ?_
      refine aw_igen rfl (fun c35 => by omega) (fun c35 => ?_)
      refine aw rfl rfl ?_
      refine aw_nen rfl (fun c39 => ?_) (fun c39 => by omega)
      refine aw rfl rfl ?_
      refine aw_getf rfl cg_113 rfl ?_
      refine aw rfl rfl ?_
      refine aw_c (v := nI 1) rfl (by decide) ?_
      refine aw_subn rfl (by omega) ?_
      refine aw_ialdE rfl cg_114 rfl (by omega) (by decide) (tin (i - 1) (by omega)).1 ?_
      rw [show TD (i - 1) = sqI T TD i from (if_neg e0).symm]
      refine aw_ist (ls' := [_, _, _, _, _, _]) rfl rfl ?_
      refine aw_c (v := nI 0) rfl (by decide) ?_
      refine aw_ist (ls' := [_, _, _, _, _, _]) rfl rfl ?_
      have hsq : sqI T TD i < 32 := by rw [show sqI T TD i = TD (i - 1) from if_neg e0]; exact (tin (i - 1) (by omega)).2.1
      refine aw_loop (α := (Nat → Int32) × Ua × Ua) (ll := fun j y => [some (.ref 113), some (.ref p), some (.int (nI k)), some (.int (nI i)), some (.int (nI (sqI T TD i))), some (.int (nI j))]) (hh := fun j y => (ch g T0 y.2.1 T1 y.2.2 (va_up (va_up K.1 26 (nI (T.1 3))) 27 (nI (stF T)), va_up K.2.1 115 y.1, K.2.2) rf)) (I := fun j y => (∀ i', i' < i → ∀ j, j < T.1 3 → ∀ f f', f < 3 → f' < 3 → y.1 ((i' * 4 + j) * 9 + f * 3 + f') = nI (wyV T (lwf W) (sqI T TD i') (TD i') j (nI (i' * T.1 5)) f f')) ∧ (∀ j', j' < j → ∀ f f', f < 3 → f' < 3 → y.1 ((i * 4 + j') * 9 + f * 3 + f') = nI (wyV T (lwf W) (sqI T TD i) (TD i) j' (nI (i * T.1 5)) f f')) ∧ (∀ n, (i * 4 + j) * 9 ≤ n → n < 180 → y.1 n = nI 0)) (N := T.1 3) (fun j y hj hIj ihj => ?_) (fun y hIj => ?_) 0 (y, u0, u1) (Nat.zero_le _) ⟨ii1, fun j2 h => absurd h (Nat.not_lt_zero _), fun n h1 h2 => ii2 n (by omega) h2⟩
      · skip
        obtain ⟨y, u0, u1⟩ := y
        obtain ⟨ij1, ij2, ij3⟩ := hIj
        dsimp only at ij1 ij2 ij3 ⊢
        have hC2 : CS g T0 u0 T1 u1 (va_up (va_up K.1 26 (nI (T.1 3))) 27 (nI (stF T)), va_up K.2.1 115 y, K.2.2) rf p T W S u P td TD hd Z nt tp pc cc := hC.w ⟨fun n hn => by simp at hn; exact (vu_ot hn.2).trans (vu_ot hn.1), fun n hn => by simp at hn; exact vu_ot hn.1, fun _ _ => rfl, rfl⟩
        refine aw rfl rfl ?_
        refine aw rfl rfl ?_
        refine aw_getfE rfl cg_113 rfl (congrArg Value.int (show _ = nI (T.1 3) from rfl)) ?_
        refine aw_igen rfl (fun c70 => by omega) (fun c70 => ?_)
        refine aw rfl rfl ?_
        refine aw rfl rfl ?_
        refine aw rfl rfl ?_
        refine aw_cv (d1 := 0) (L1 := 0) rfl rfl (sa hp).1 rfl rfl (by decide) (by decide) (Nat.le_of_ble_eq_true rfl) (c_X7_canKickFrom (sa hp) hsq hj g3x (fun hck => ?_) (fun hck => ?_))
        · refine aw_eq rfl (fun c => absurd c (by decide)) (fun _ => ?_)
          refine aw rfl rfl ?_
          refine aw rfl rfl ?_
          refine aw rfl rfl ?_
          refine aw rfl rfl ?_
          refine aw rfl rfl ?_
          refine aw_cv (d1 := 4) (L1 := 100) rfl rfl cg_113 rfl rfl (by decide) (by decide) (Nat.le_of_ble_eq_true rfl) (c_X5_weighKick (K := (va_up (va_up K.1 26 (nI (T.1 3))) 27 (nI (stF T)), va_up K.2.1 115 y, K.2.2)) (sq := sqI T TD i) (tdi := TD i) hC2 (by omega) hj hsq hck (tin i (by omega)).1 (tin i (by omega)).2.1 (fun f f' h1 h2 => ij3 _ (by omega) (by omega)) (fun y2 u0 u1 w1 w2 => ?_))
          refine aw_incn (c := 1) (ls' := [_, _, _, _, _, _]) rfl rfl (by decide) rfl ?_
          refine aw rfl rfl ?_
          show AW am_P _ _ _ _ _ _ (ch g T0 u0 T1 u1 (_, va_up (va_up K.2.1 115 y) 115 y2, _) rf) _
          rw [show va_up (va_up K.2.1 115 y) 115 y2 = va_up K.2.1 115 y2 from va_tw2]
          refine ihj (y2, u0, u1) ⟨fun i2 h1 j2 h2 f f' h3 h4 => (w2 _ (by omega)).trans (ij1 i2 h1 j2 h2 f f' h3 h4), fun j2 h1 f f' h3 h4 => ?_, fun n h1 h2 => (w2 _ (by omega)).trans (ij3 n (by omega) h2)⟩
          by_cases e : j2 = j
          · subst e
            refine (w1 f f' h3 h4).trans (congrArg nI ?_)
            unfold wyV
            rw [nckB_iff.mpr hck]
            rfl
          · exact (w2 _ (by omega)).trans (ij2 j2 (by omega) f f' h3 h4)
        · refine aw_eq rfl (fun _ => ?_) (fun c => absurd (by decide) c)
          refine aw_incn (c := 1) (ls' := [_, _, _, _, _, _]) rfl rfl (by decide) rfl ?_
          refine aw rfl rfl ?_
          refine ihj (y, u0, u1) ⟨ij1, fun j2 h1 f f' h3 h4 => ?_, fun n h1 h2 => ij3 n (by omega) h2⟩
          by_cases e : j2 = j
          · subst e
            refine (ij3 _ (by omega) (by omega)).trans (congrArg nI ?_)
            unfold wyV
            rw [Bool.eq_false_iff.mpr (fun w => hck (nckB_iff.mp w))]
            rfl
          · exact ij2 j2 (by omega) f f' h3 h4
      · skip
        obtain ⟨y, u0, u1⟩ := y
        obtain ⟨ij1, ij2, ij3⟩ := hIj
        dsimp only at ij1 ij2 ij3 ⊢
        refine aw rfl rfl ?_
        refine aw rfl rfl ?_
        refine aw_getfE rfl cg_113 rfl (congrArg Value.int (show _ = nI (T.1 3) from rfl)) ?_
        refine aw_igen rfl (fun c70 => ?_) (fun c70 => by omega)
        refine aw_incn (c := 1) (ls' := [_, _, _, _, _, _]) rfl rfl (by decide) rfl ?_
        refine aw rfl rfl ?_
        exact ihi ((y, u0, u1), _, _) ⟨fun i2 h1 j2 h2 f f' h3 h4 => by
          by_cases e : i2 = i
          · subst e; exact ij2 j2 h2 f f' h3 h4
          · exact ij1 i2 (by omega) j2 h2 f f' h3 h4, fun n h1 h2 => ij3 n (by omega) h2⟩
  · skip
    obtain ⟨⟨y, u0, u1⟩, l4, l5⟩ := y
    obtain ⟨ii1, ii2⟩ := hI
    dsimp only at ii1 ii2 ⊢
    refine aw rfl rfl ?_
    refine aw rfl rfl ?_
    refine aw_igen rfl (fun c30 => ?_) (fun c30 => by omega)
    exact aw_vret rfl rfl (q y u0 u1 ii1)
end C1
