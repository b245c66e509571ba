/-! ===== the reference: read ===== -/
/-- what reading leaves, but for what it reads into -/
def KRd (lv : Nat) (k k' : Mk) : Prop := (∀ n, ¬ (n = 2 ∨ n = 4 ∨ (10 ≤ n ∧ n ≤ 17) ∨ n = 19 ∨ n = 20 ∨ n = 39 ∨ n = 45 ∨ n = 49) → k'.1 n = k.1 n) ∧ (∀ n, n < 3 ∨ n = 4 ∨ (8 ≤ n ∧ n ≤ 21) ∨ 48 < n → k'.2.1 n = k.2.1 n) ∧ (∀ n, ¬ (n = 8 ∨ n = 21) → k'.2.2 n = k.2.2 n) ∧ SDf lv k k'
theorem KRd.tr {lv : Nat} {k k1 k2 : Mk} (h : KRd lv k k1) (h1 : KRd lv k1 k2) : KRd lv k k2 := ⟨fun n hn => (h1.1 n hn).trans (h.1 n hn), fun n hn => (h1.2.1 n hn).trans (h.2.1 n hn), fun n hn => (h1.2.2.1 n hn).trans (h.2.2.1 n hn), h.2.2.2.tr h1.2.2.2⟩
theorem KRd.kp {lv : Nat} {k k' : Mk} (h : KP k k') (hs : SDf lv k k') : KRd lv k k' := ⟨fun n hn => h.1 n (by omega), fun n hn => h.2.1 n (by omega), fun n hn => h.2.2 n (by omega), hs⟩
theorem KRd.f {lv : Nat} {k : Mk} {f : Nat → Int32} (h : ∀ n, ¬ (n = 2 ∨ n = 4 ∨ (10 ≤ n ∧ n ≤ 17) ∨ n = 19 ∨ n = 20 ∨ n = 39 ∨ n = 45 ∨ n = 49) → f n = k.1 n) : KRd lv k (f, k.2.1, k.2.2) := ⟨h, fun _ _ => rfl, fun _ _ => rfl, SDf.rf⟩
theorem KRd.cu {lv : Nat} {k k' : Mk} (h : KCu k k') : KRd lv k k' := ⟨fun n hn => h.1 n (by omega), fun n hn => h.2.1 n (by omega), fun n hn => h.2.2 n (by omega), SDf.eq (fun j h2 _ => h.2.1 j (by omega))⟩
theorem KRd.pl {lv sd : Nat} {k k' : Mk} (h : KPl sd k k') (e : 1 - sd = lv) : KRd lv k k' := ⟨fun n _ => by rw [h.1], fun n hn => h.2.2.1 n (by omega), fun n _ => by rw [h.2.1], e ▸ h.2.2.2⟩
section M1
variable {k k' : Mk} {T : Sd} {W : Nat → Lw} {S : Nat → Nat} {u td nt cc lv : Nat} {P Z : Nat → Nat → Nat} {TD : Nat → Nat} {hd : Nat → Bool} {tp : Nat → Int32} {pc pc' : Int32}
theorem MS.rd (hM : MR k lv T W) (hX : MS k T W S u P td TD hd Z nt tp pc cc) (hF : KRd lv k k') (h2 : k'.1 2 = nI 0) (h17 : k'.1 17 = pc') : MS k' T W S u P td TD hd Z 0 tp pc' cc := by
  obtain ⟨_, hG, hN, hS, hH, hT, hZ, _, _, hK, hc⟩ := hX
  have e53 := hF.2.1 53 (by omega)
  have e59 := hF.2.1 59 (by omega)
  have e64 := hF.2.1 64 (by omega)
  have e65 := hF.2.1 65 (by omega)
  have e68 := hF.2.1 68 (by omega)
  have e69 := hF.2.1 69 (by omega)
  refine ⟨⟨lv, hM.other hG (hF.1 18 (by omega)) hF.2.2.2⟩, hG, by rw [e53]; exact hN, hS, ?_, ?_, ?_, ⟨Nat.zero_le _, h2, fun i hi => absurd hi (Nat.not_lt_zero i)⟩, h17, ?_, hc⟩
  · unfold HR; rw [e59, hF.1 58 (by omega)]; exact hH
  · unfold TDR; rw [e64, e65, hF.1 63 (by omega)]; exact hT
  · unfold SLR; rw [e68, e69]; exact hZ
  · intro i hi; rw [hF.2.2.1 9 (by omega)]; exact hK i hi
theorem MD.cg {sd t b cn : Nat} {D : Dt} (h : MD sd k D t b cn) (h1 : ∀ n, n = 12 ∨ n = 20 ∨ n = 39 ∨ n = 45 → k'.1 n = k.1 n) (h2 : ∀ n, 22 ≤ n → n ≤ 47 → k'.2.1 n = k.2.1 n) (h3 : k'.2.2 21 = k.2.2 21) : MD sd k' D t b cn := by
  obtain ⟨a1, a2, a3, a4⟩ := h
  exact ⟨a1.cg (fun n hn => h2 n (by omega) (by omega)), a2.cg (h1 20 (by omega)) (fun n x y => h2 n (by omega) (by omega)) h3, a3.cg (fun n x y => h2 n (by omega) (by omega)), a4.cg (h1 12 (by omega)) (h1 39 (by omega)) (h1 45 (by omega)) (fun n x y => h2 n (by omega) (by omega)) (Nat.le_refl _)⟩
end M1
section C1
variable {g : am_H} {k : Mk} {v pl : Nat → Int32} {br lo : Int32} {c ct pr pt cm bf bt : Nat → Int32}
variable {T : Sd} {W : Nat → Lw} {S : Nat → Nat} {u td nt cc : Nat} {P Z : Nat → Nat → Nat} {TD : Nat → Nat} {hd : Nat → Bool} {tp : Nat → Int32} {pc : Int32}
set_option maxRecDepth 4000 in
theorem c_X11_read {Q : Option Value → am_H → Prop} (hX : MS k T W S u P td TD hd Z nt tp pc cc) (hb : ∀ j, j < nt → b8 (tp j)) (q0 : ¬ (rdR (tkS tp nt) nt).1 = 0 → ∀ k', MS k' T W S u P td TD hd Z 0 tp (rdR (tkS tp nt) nt).2 cc → Q (some (.int (nI (rdR (tkS tp nt) nt).1))) (mh g k' v pl br lo c ct pr pt cm bf bt)) (q1 : (rdR (tkS tp nt) nt).1 = 0 → ∀ k', (∀ T' u' K' C', CDt T' u' K' C' (rd (tkS tp nt)).1 True → GS T' → MS k' T' (rd (tkS tp nt)).1.2.2.2.2.2 (bgS T') 0 P 0 TD (fun _ => false) Z 0 tp (-1) cc) → Q (some (.int (nI 0))) (mh g k' v pl br lo c ct pr pt cm bf bt)) : AC am_P 7 147 194 [.ref 121] (mh g k v pl br lo c ct pr pt cm bf bt) Q := by
  refine AC.of (ls := [_, _]) rfl ?_
  have hX0 := hX
  obtain ⟨⟨lv, hM⟩, hG, hN, hS, hH, hT, hZ, ⟨ht1, ht2, ht3⟩, h17, hK, hc⟩ := hX
  have hlv := hM.1
  have h18 := hM.2.1
  have hsd : 1 - lv < 2 := by omega
  have hss : 1 - (1 - lv) = lv := by omega
  refine aw rfl rfl ?_
  refine aw rfl rfl ?_
  refine aw_getfE rfl mg_121 rfl (congrArg Value.int ht2) ?_
  refine aw_putfU rfl mg_121 rfl rfl (by decide) mp_4 ?_
  refine aw_c (v := nI 0) rfl (by decide) ?_
  refine aw_ist (ls' := [_, _]) rfl rfl ?_
  refine aw_loop (α := Mk) (ll := fun j y => [some (.ref 121), some (.int (nI j))]) (hh := fun j y => (mh g y v pl br lo c ct pr pt cm bf bt)) (I := fun j y => y.1 = va_up k.1 4 (nI nt) ∧ y.2.2 = k.2.2 ∧ (∀ n, ¬ n = 3 → y.2.1 n = k.2.1 n) ∧ ∀ i, i < j → y.2.1 3 i = tp i) (N := nt) (fun j y hj hI ih => ?_) (fun y hI => ?_) 0 (va_up k.1 4 (nI nt), k.2.1, k.2.2) (Nat.zero_le _) ⟨rfl, rfl, fun _ _ => rfl, fun i hi => absurd hi (Nat.not_lt_zero i)⟩
  · have h49 : y.1 4 = nI nt := by rw [hI.1]; rfl
    refine aw rfl rfl ?_
    refine aw rfl rfl ?_
    refine aw_getfE rfl mg_121 rfl (congrArg Value.int h49) ?_
    refine aw_igen rfl (fun c15 => by omega) (fun c15 => ?_)
    refine aw rfl rfl ?_
    refine aw_getf rfl mg_121 rfl ?_
    refine aw rfl rfl ?_
    refine aw rfl rfl ?_
    refine aw_getf rfl mg_121 rfl ?_
    refine aw rfl rfl ?_
    refine aw_bald rfl mg_122 rfl (by omega) (by decide) ?_
    refine aw_bastU rfl mg_123 rfl (by omega) (by decide) (by decide) mu_123 ?_
    refine aw_incn (c := 1) (ls' := [_, _]) rfl rfl (by decide) rfl ?_
    refine aw rfl rfl ?_
    refine ih (y.1, va_up y.2.1 3 (upd (y.2.1 3) j (vp_nar .byte (y.2.1 1 j))), y.2.2) ⟨hI.1, hI.2.1, fun n hn => (vu_ot hn).trans (hI.2.2.1 n hn), fun i hi => ?_⟩
    show upd (y.2.1 3) j (vp_nar .byte (y.2.1 1 j)) i = _
    by_cases e : i = j
    · subst e
      rw [upd_at, hI.2.2.1 1 (by omega), ht3 i hj]
      exact (b8_of (hb i hj)).2.2.2.2.2.2
    · rw [upd_ne e]; exact hI.2.2.2 i (by omega)
  · have h49 : y.1 4 = nI nt := by rw [hI.1]; rfl
    refine aw rfl rfl ?_
    refine aw rfl rfl ?_
    refine aw_getfE rfl mg_121 rfl (congrArg Value.int h49) ?_
    refine aw_igen rfl (fun c15 => ?_) (fun c15 => by omega)
    refine aw rfl rfl ?_
    refine aw_c (v := nI 0) rfl (by decide) ?_
    refine aw_putfU rfl mg_121 rfl rfl (by decide) mp_2 ?_
    refine aw rfl rfl ?_
    refine aw_cv (d1 := 2) (L1 := 49) rfl rfl mg_121 rfl rfl (by decide) (by decide) (Nat.le_of_ble_eq_true rfl) (c_X11_cut (n := nt) (x := y.2.1 3) h49 rfl ht1 (fun j hj => by rw [hI.2.2.2 j hj]; exact hb j hj) (fun i hi => by show y.2.2 9 i = _; rw [hI.2.1]; exact hK i hi) (fun k2 hTK hC => ?_))
    have eY : tkS (y.2.1 3) nt = tkS tp nt := tkS_cg (fun i hi => hI.2.2.2 i hi)
    have h182 : k2.1 18 = nI lv := (hC.1 18 (by omega)).trans (by show y.1 18 = nI lv; rw [hI.1]; exact h18)
    refine aw rfl rfl ?_
    refine aw_c (v := nI 0) rfl (by decide) ?_
    refine aw_putfU rfl mg_121 rfl rfl (by decide) mp_11 ?_
    refine aw rfl rfl ?_
    refine aw_c (v := nI 0) rfl (by decide) ?_
    refine aw_putfU rfl mg_121 rfl rfl (by decide) mp_12 ?_
    refine aw rfl rfl ?_
    refine aw_c (v := nI 0) rfl (by decide) ?_
    refine aw_putfU rfl mg_121 rfl rfl (by decide) mp_13 ?_
    refine aw rfl rfl ?_
    refine aw_c (v := nI 0) rfl (by decide) ?_
    refine aw_putfU rfl mg_121 rfl rfl (by decide) mp_15 ?_
    refine aw rfl rfl ?_
    refine aw_c (v := nI 1) rfl (by decide) ?_
    refine aw rfl rfl ?_
    refine aw_getfE rfl mg_121 rfl (congrArg Value.int h182) ?_
    refine aw_subn rfl (by omega) ?_
    refine aw_putfU rfl mg_121 rfl rfl (by decide) mp_19 ?_
    refine aw rfl rfl ?_
    refine aw_c (v := nI 0) rfl (by decide) ?_
    refine aw_putfU rfl mg_121 rfl rfl (by decide) mp_20 ?_
    refine aw rfl rfl ?_
    refine aw rfl rfl ?_
    refine aw_getfE rfl mg_121 rfl (congrArg Value.int (show _ = nI (1 - lv) from rfl)) ?_
    refine aw_cv (d1 := 0) (L1 := 0) rfl rfl mg_121 rfl rfl (by decide) (by decide) (Nat.le_of_ble_eq_true rfl) (c_X11_plain (sd := 1 - lv) hsd (fun k3 hK3 hv3 hz3 => ?_))
    have h193 : k3.1 19 = nI (1 - lv) := by rw [hK3.1]; rfl
    refine aw rfl rfl ?_
    refine aw_c (v := nI 130) rfl (by decide) ?_
    refine aw rfl rfl ?_
    refine aw_getfE rfl mg_121 rfl (congrArg Value.int h193) ?_
    refine aw_muln rfl ?_
    refine aw_putfU rfl mg_121 rfl rfl (by decide) mp_39 ?_
    refine aw rfl rfl ?_
    refine aw_c (v := nI 420) rfl (by decide) ?_
    refine aw rfl rfl ?_
    refine aw_getfE rfl mg_121 rfl (congrArg Value.int h193) ?_
    refine aw_muln rfl ?_
    refine aw_putfU rfl mg_121 rfl rfl (by decide) mp_45 ?_
    have e13 : ∀ n, n = 11 ∨ n = 12 ∨ n = 13 ∨ n = 15 ∨ n = 20 → k3.1 n = nI 0 := fun n hn => by
      rw [hK3.1]
      rcases hn with rfl | rfl | rfl | rfl | rfl <;> rfl
    have h24 : k3.1 2 = nI 0 := by
      rw [hK3.1]
      show k2.1 2 = nI 0
      rw [hC.1 2 (by omega)]
      rfl
    have hTK3 : TKM (tkS tp nt) k3 := by
      rw [← eY]
      unfold TKM
      rw [hK3.2.1, hK3.2.2.1 5 (by omega), hK3.2.2.1 6 (by omega), hK3.2.2.1 7 (by omega)]
      exact hTK
    obtain ⟨k4, hk4⟩ : ∃ k4 : Mk, k4 = ((va_up (va_up k3.1 39 (nI (130 * (1 - lv)))) 45 (nI (420 * (1 - lv))), k3.2.1, k3.2.2) : Mk) := ⟨_, rfl⟩
    have hF4 : KRd lv k k4 := by
      subst hk4
      have f1 : KRd lv k y := ⟨fun n hn => by rw [hI.1]; exact vu_ot (by omega), fun n hn => hI.2.2.1 n (by omega), fun n _ => by rw [hI.2.1], SDf.eq (fun j h2 _ => hI.2.2.1 j (by omega))⟩
      have f2 : KRd lv y (va_up y.1 2 (nI 0), y.2.1, y.2.2) := KRd.f (fun n hn => vu_ot (by omega))
      have f3 : KRd lv (va_up y.1 2 (nI 0), y.2.1, y.2.2) k2 := KRd.cu hC
      have f4 : KRd lv k2 (va_up (va_up (va_up (va_up (va_up (va_up k2.1 11 (nI 0)) 12 (nI 0)) 13 (nI 0)) 15 (nI 0)) 19 (nI (1 - lv))) 20 (nI 0), k2.2.1, k2.2.2) := KRd.f (fun n hn => by rw [vu_ot (by omega), vu_ot (by omega), vu_ot (by omega), vu_ot (by omega), vu_ot (by omega), vu_ot (by omega)])
      have f5 : KRd lv (va_up (va_up (va_up (va_up (va_up (va_up k2.1 11 (nI 0)) 12 (nI 0)) 13 (nI 0)) 15 (nI 0)) 19 (nI (1 - lv))) 20 (nI 0), k2.2.1, k2.2.2) k3 := KRd.pl hK3 hss
      have f6 : KRd lv k3 ((va_up (va_up k3.1 39 (nI (130 * (1 - lv)))) 45 (nI (420 * (1 - lv))), k3.2.1, k3.2.2) : Mk) := KRd.f (fun n hn => by rw [vu_ot (by omega), vu_ot (by omega)])
      exact ((((f1.tr f2).tr f3).tr f4).tr f5).tr f6
    have h19' : k4.1 19 = nI (1 - lv) := by subst hk4; exact h193
    have hRM : RM (tkS tp nt) k4 s00 := by
      subst hk4
      exact ⟨⟨hTK3, tk_yv, fun i => Nat.le_trans (ps_hi i) ht1⟩, Nat.zero_le _, by decide, e13 13 (by omega), fun _ => ⟨e13 11 (by omega), fun j hj => absurd hj (Nat.not_lt_zero j), by decide, e13 15 (by omega), fun w => absurd rfl w⟩, fun w => absurd rfl w⟩
    have hD0 : MD (1 - lv) k4 D0 0 (130 * (1 - lv)) (420 * (1 - lv)) := by
      subst hk4
      obtain ⟨v1, v2, v3, v4, v5, v6, v7⟩ := hv3
      refine ⟨⟨v3, v5, v6, v7, fun i hi => hz3 32 (by omega) i hi, fun i hi => hz3 33 (by omega) i hi⟩, ⟨v4, e13 20 (by omega), Nat.zero_le _, fun j hj => absurd hj (Nat.not_lt_zero j)⟩, ⟨v1, Nat.zero_le _, v2, fun e he => absurd he (Nat.not_lt_zero e)⟩, ⟨e13 12 (by omega), rfl, rfl, Nat.le_refl _, Nat.le_refl _, by omega, by omega, fun i hi => Or.inl ⟨rfl, hz3 37 (by omega) i hi, hz3 38 (by omega) i hi⟩⟩⟩
    have h24' : k4.1 2 = nI 0 := by subst hk4; exact h24
    show AW am_P 7 147 194 112 [some (.ref 121), some (.int (nI nt))] [] (mh g ((va_up (va_up k3.1 39 (nI (130 * (1 - lv)))) 45 (nI (420 * (1 - lv))), k3.2.1, k3.2.2) : Mk) v pl br lo c ct pr pt cm bf bt) Q
    rw [← hk4]
    refine l_rl (sd := 1 - lv) (Y := tkS tp nt) hsd tk_nm 401 D0 s00 k4 hRM h19' (fun _ => ⟨_, _, hD0⟩) (fun _ _ r hr => absurd hr (by unfold D0; exact List.not_mem_nil)) (fun _ => by decide) (fun k5 hR5 hk5 hs5 hf5 => ?_)
    have hF5 : KRd lv k k5 := hF4.tr (KRd.kp hk5 (hss ▸ hs5))
    have h195 : k5.1 19 = nI (1 - lv) := by rw [hk5.1 19 (by omega)]; exact h19'
    have h25 : k5.1 2 = nI 0 := by rw [hk5.1 2 (by omega)]; exact h24'
    refine l_r2 (sd := 1 - lv) (x := tp) (n := nt) hsd hR5 h195 hf5 rd_g (fun hne k6 hk6 hs6 => ?_) (fun h0 b cn hD h400 => ?_)
    · refine q0 hne _ (MS.rd hM hX0 ?_ ?_ rfl)
      · exact (hF5.tr (KRd.kp hk6 (hss ▸ hs6))).tr (KRd.f (fun n hn => vu_ot (by omega)))
      · show k6.1 2 = nI 0
        rw [hk6.1 2 (by omega)]
        exact h25
    · skip
      refine aw rfl rfl ?_
      refine aw rfl rfl ?_
      refine aw_getfE rfl mg_121 rfl (congrArg Value.int h195) ?_
      refine aw_putfU rfl mg_121 rfl rfl (by decide) mp_18 ?_
      refine aw rfl rfl ?_
      refine aw_cv (d1 := 0) (L1 := 0) rfl rfl mg_121 rfl rfl (by decide) (by decide) (Nat.le_of_ble_eq_true rfl) (c_X11_begins (lv := 1 - lv) hsd rfl (fun k7 e7 r0 r3 r4 => ?_))
      refine aw rfl rfl ?_
      refine aw_cv (d1 := 0) (L1 := 0) rfl rfl mg_121 rfl rfl (by decide) (by decide) (Nat.le_of_ble_eq_true rfl) (c_X11_keepsRow (fun f hf9 => ?_))
      refine aw rfl rfl ?_
      refine aw_c (v := nI 0) rfl (by decide) ?_
      refine aw_putfU rfl mg_121 rfl rfl (by decide) mp_58 ?_
      refine aw rfl rfl ?_
      refine aw_c (v := nI 0) rfl (by decide) ?_
      refine aw_putfU rfl mg_121 rfl rfl (by decide) mp_63 ?_
      refine aw_c (v := nI 0) rfl (by decide) ?_
      refine aw_ist (ls' := [_, _]) rfl rfl ?_
      obtain ⟨kE, hkE⟩ : ∃ kE : Mk, kE = ((va_up (va_up k7.1 58 (nI 0)) 63 (nI 0), va_up k7.2.1 53 f, k7.2.2) : Mk) := ⟨_, rfl⟩
      have hkE1 : ∀ n, ¬ (n = 17 ∨ n = 18 ∨ n = 58 ∨ n = 63) → kE.1 n = k5.1 n := fun n hn => by
        subst hkE
        show va_up (va_up k7.1 58 (nI 0)) 63 (nI 0) n = _
        rw [vu_ot (by omega), vu_ot (by omega), e7.1]
        show va_up (va_up k5.1 17 (-1)) 18 (nI (1 - lv)) n = _
        rw [vu_ot (by omega), vu_ot (by omega)]
      have hkE2 : ∀ n, ¬ (n = 53 ∨ n = 54) → kE.2.1 n = k5.2.1 n := fun n hn => by
        subst hkE
        show va_up k7.2.1 53 f n = _
        rw [vu_ot (by omega), e7.2.2 n (by omega)]
      have hkE3 : kE.2.2 = k5.2.2 := by subst hkE; exact e7.2.1
      have hkE18 : kE.1 18 = nI (1 - lv) := by
        subst hkE
        show k7.1 18 = _
        rw [e7.1]
        rfl
      have hkE17 : kE.1 17 = -1 := by
        subst hkE
        show k7.1 17 = _
        rw [e7.1]
        rfl
      have hkE58 : kE.1 58 = nI 0 := by subst hkE; rfl
      have hkE63 : kE.1 63 = nI 0 := by subst hkE; rfl
      have hr0 : ∀ j, j < 3 → kE.2.1 53 j = k5.2.1 32 (3 * (1 - lv) + j) := fun j hj => by
        subst hkE
        exact (hf9 j (by omega)).trans (r0 j hj)
      have hr3 : kE.2.1 53 3 = k5.2.1 34 (1 - lv) := by
        subst hkE
        exact (hf9 3 (by omega)).trans r3
      have hr4 : ∀ j, 4 ≤ j → j < 10 → kE.2.1 53 j = nI 0 := fun j h4 h9 => by
        subst hkE
        exact (hf9 j h9).trans (r4 j h4 h9)
      show AW am_P 7 147 194 285 [some (.ref 121), some (.int (nI 0))] [] (mh g ((va_up (va_up k7.1 58 (nI 0)) 63 (nI 0), va_up k7.2.1 53 f, k7.2.2) : Mk) v pl br lo c ct pr pt cm bf bt) Q
      rw [← hkE]
      refine aw_loop (α := Mk) (ll := fun j y => [some (.ref 121), some (.int (nI j))]) (hh := fun j y => (mh g y v pl br lo c ct pr pt cm bf bt)) (I := fun j y => y.1 = kE.1 ∧ y.2.2 = kE.2.2 ∧ (∀ n, ¬ n = 68 → y.2.1 n = kE.2.1 n) ∧ ∀ i, i < j → y.2.1 68 i = nI 0) (N := 3) (fun j y hj hI ih => ?_) (fun y hI => ?_) 0 kE (Nat.zero_le _) ⟨rfl, rfl, fun _ _ => rfl, fun i hi => absurd hi (Nat.not_lt_zero i)⟩
      · skip
        refine aw rfl rfl ?_
        refine aw_c (v := nI 3) rfl (by decide) ?_
        refine aw_igen rfl (fun c287 => by omega) (fun c287 => ?_)
        refine aw rfl rfl ?_
        refine aw_getf rfl mg_121 rfl ?_
        refine aw rfl rfl ?_
        refine aw_c (v := nI 0) rfl (by decide) ?_
        refine aw_bastU rfl mg_169 rfl (by omega) (by decide) (by decide) mu_169 ?_
        refine aw_incn (c := 1) (ls' := [_, _]) rfl rfl (by decide) rfl ?_
        refine aw rfl rfl ?_
        refine ih (y.1, va_up y.2.1 68 (upd (y.2.1 68) j (nI 0)), y.2.2) ⟨hI.1, hI.2.1, fun n hn => (vu_ot hn).trans (hI.2.2.1 n hn), fun i hi => ?_⟩
        show upd (y.2.1 68) j (nI 0) i = nI 0
        by_cases e : i = j
        · subst e; exact upd_at
        · rw [upd_ne e]; exact hI.2.2.2 i (by omega)
      · skip
        refine aw rfl rfl ?_
        refine aw_c (v := nI 3) rfl (by decide) ?_
        refine aw_igen rfl (fun c287 => ?_) (fun c287 => by omega)
        refine aw_c (v := nI 0) rfl (by decide) ?_
        exact aw_iret rfl rfl (by
            refine (q1 h0 y (fun T' u' K' C' hC hG' => ?_))
            obtain ⟨y1, y2, y3, y4⟩ := hI
            have z1 : ∀ n, ¬ (n = 17 ∨ n = 18 ∨ n = 58 ∨ n = 63) → y.1 n = k5.1 n := fun n hn => by rw [y1]; exact hkE1 n hn
            have z2 : ∀ n, ¬ (n = 53 ∨ n = 54 ∨ n = 68) → y.2.1 n = k5.2.1 n := fun n hn => (y3 n (by omega)).trans (hkE2 n (by omega))
            have z3 : y.2.2 = k5.2.2 := y2.trans hkE3
            have hDy : MD (1 - lv) y (rd (tkS tp nt)).1 (rd (tkS tp nt)).2.1 b cn := hD.cg (fun n hn => z1 n (by omega)) (fun n x1 x2 => z2 n (by omega)) (by rw [z3])
            obtain ⟨s1, s2, s3, s4, s5⟩ := bg_sg hG'
            refine ⟨⟨1 - lv, hDy.mr hsd (by rw [y1]; exact hkE18) h400 hC hG'⟩, hG', ?_, ⟨s1, by omega, by omega, by omega⟩, ⟨Nat.zero_le _, by rw [y1]; exact hkE58, fun i hi => absurd hi (Nat.not_lt_zero i)⟩, ⟨Nat.zero_le _, by rw [y1]; exact hkE63, fun i hi => absurd hi (Nat.not_lt_zero i)⟩, fun s hs => ⟨y4 s hs, fun w => absurd w Bool.false_ne_true⟩, ⟨Nat.zero_le _, by rw [z1 2 (by omega)]; exact h25, fun i hi => absurd hi (Nat.not_lt_zero i)⟩, by rw [y1]; exact hkE17, fun i hi => ?_, hc⟩
            · rw [y3 53 (by omega)]
              exact hD.nr hC hG' hr0 hr3 hr4
            · rw [z3, hF5.2.2.1 9 (by omega)]
              exact hK i hi)
end C1
