/-! ===== the reference's constructor ===== -/
theorem bg_nr {T : Sd} (hG : GS T) {f : Nat → Int32} (h0 : ∀ j, j < 3 → f j = T.2 6 j) (h3 : f 3 = nI (T.1 4)) (h4 : ∀ j, 4 ≤ j → j < 10 → f j = nI 0) : NR T f (bgS T) := by
  obtain ⟨⟨g0, g0x⟩, ⟨g1, g1x⟩, ⟨g2, g2x⟩, ⟨g3, g3x⟩, g4, ⟨g5, g5x⟩, g6, gsq, goc, gwt, gsp, gfr⟩ := hG
  obtain ⟨a, e, f9, ha, he, hf, i1, i2, i3, i4⟩ := gsp
  have ea : (T.2 6 0).toNatClampNeg = a := by rw [ha, nI_clamp (by omega)]
  have ee : (T.2 6 1).toNatClampNeg = e := by rw [he, nI_clamp (by omega)]
  have ef : (T.2 6 2).toNatClampNeg = f9 := by rw [hf, nI_clamp (by omega)]
  have s0 : bgS T 0 = e * 8 + a := by show (T.2 6 1).toNatClampNeg * 8 + (T.2 6 0).toNatClampNeg = _; rw [ea, ee]
  have s1 : bgS T 1 = f9 := ef
  have s6 : ¬ bgS T 6 = 2 := by
    show ¬ (bif hm T (((T.2 6 1).toNatClampNeg * 8 + (T.2 6 0).toNatClampNeg) * 3 + (T.2 6 2).toNatClampNeg) then 1 else 0) = 2
    cases hm T (((T.2 6 1).toNatClampNeg * 8 + (T.2 6 0).toNatClampNeg) * 3 + (T.2 6 2).toNatClampNeg) <;> decide
  unfold NR
  rw [s0, s1, if_neg s6]
  refine ⟨?_, ?_, ?_, h3, h4 4 (by decide) (by decide), ?_, h4 6 (by decide) (by decide), h4 7 (by decide) (by decide), h4 8 (by decide) (by decide)⟩
  · rw [h0 0 (by decide), ha, show (e * 8 + a) % 8 = a by omega]
  · rw [h0 1 (by decide), he, show (e * 8 + a) / 8 = e by omega]
  · rw [h0 2 (by decide), hf]
  · rw [h4 5 (by decide) (by decide)]
    show nI 0 = nI (0 * T.1 5)
    rw [Nat.zero_mul]
/-- what the reference holds of the street that lies ahead -/
def DSk (k : Mk) : Prop := (k.2.1 22 0 = nI 1 ∧ k.2.1 23 0 = nI 2 ∧ k.2.1 25 0 = nI 1 ∧ k.2.1 26 0 = nI 1 ∧ k.2.1 34 0 = nI 0 ∧ k.2.1 35 0 = nI 5 ∧ k.2.1 36 0 = nI 0) ∧ (k.2.1 24 0 = nI 0 ∧ k.2.1 24 1 = nI 6) ∧ (k.2.1 27 0 = nI 1 ∧ k.2.1 28 0 = nI 6 ∧ k.2.1 29 0 = nI 1 ∧ k.2.1 30 0 = nI 0 ∧ k.2.1 31 0 = nI 0) ∧ ∀ n, n = 32 ∨ n = 33 ∨ n = 37 ∨ n = 38 → ∀ i, i < 3 → k.2.1 n i = nI 0
theorem DSk.mr {k : Mk} {T : Sd} (h : DSk k) (hT : DSt T) (h18 : k.1 18 = nI 0) : MR k 0 T (fun _ => []) := by
  obtain ⟨⟨p1, p2, p3, p4, p5, p6, p7⟩, ⟨s0, s1⟩, ⟨r1, r2, r3, r4, r5⟩, hz⟩ := h
  obtain ⟨⟨a0, a1, a2, a3, a4, a5, a6, a7, a8⟩, ⟨b0, b1, b2⟩, ⟨c1, c2, c3, c4, c5, c6⟩, d6, d7, d9⟩ := hT
  have o0 : oc T 0 = 1 := by unfold oc; rw [c1]; rfl
  refine ⟨by decide, h18, by rw [a1]; exact p1, by rw [a0]; exact p2, by rw [a2]; exact p3, by rw [a3]; exact p4, by rw [a4]; exact p5, by rw [a5]; exact p6, by rw [a6]; exact p7, fun a e ha he => ?_, fun j hj => ?_, fun j o hj ho => ?_, fun i hi => ?_, fun i hi => ?_⟩
  · have e0 : e = 0 := by omega
    subst e0
    have ea : a = 0 ∨ a = 1 := by omega
    rcases ea with rfl | rfl
    · exact s0.trans b0.symm
    · exact s1.trans b1.symm
  · have e0 : j = 0 := by omega
    subst e0
    exact r1.trans c1.symm
  · have e0 : j = 0 := by omega
    subst e0
    have e1 : o = 0 := by omega
    subst e1
    exact ⟨r2.trans c2.symm, r3.trans c3.symm, r4.trans c4.symm, r5.trans c5.symm⟩
  · rw [d6 i hi, d7 i hi, show 3 * 0 + i = i by omega]
    exact ⟨hz 32 (by omega) i hi, hz 33 (by omega) i hi⟩
  · rw [show 3 * 0 + i = i by omega]
    exact ⟨0, hz 37 (by omega) i hi, hz 38 (by omega) i hi, trivial, Nat.zero_le 260, Or.inl rfl, trivial⟩

section C0
variable {g : am_H} {k : Mk} {v pl : Nat → Int32} {br lo : Int32} {c ct pr pt cm bf bt : Nat → Int32}
variable {Y : Tk} {s : Ps}
variable {sd : Nat}
theorem c_pl2 {Q : Option Value → am_H → Prop} (hs : sd < 2) (q : ∀ k', KPl sd k k' → (k'.2.1 22 sd = nI 0 ∧ k'.2.1 23 sd = nI 0 ∧ k'.2.1 25 sd = nI 1 ∧ k'.2.1 26 sd = nI 0 ∧ k'.2.1 34 sd = nI 0 ∧ k'.2.1 35 sd = nI 5 ∧ k'.2.1 36 sd = nI 0) → (∀ n, n = 32 ∨ n = 33 ∨ n = 37 ∨ n = 38 → ∀ i, i < 3 → k'.2.1 n (3 * sd + i) = nI 0) → (∀ n, n = 24 ∨ (27 ≤ n ∧ n ≤ 31) → k'.2.1 n = k.2.1 n) → Q none (mh g k' v pl br lo c ct pr pt cm bf bt)) : AC am_P 0 0 186 [.ref 121, .int (nI sd)] (mh g k v pl br lo c ct pr pt cm bf bt) Q := by
  refine AC.of (ls := [_, _, _]) rfl ?_
  refine aw rfl rfl ?_
  refine aw_getf rfl mg_121 rfl ?_
  refine aw rfl rfl ?_
  refine aw_c (v := nI 0) rfl (by decide) ?_
  refine aw_iastU rfl mg_130 rfl (by omega) (by decide) (by decide) mu_130 ?_
  refine aw rfl rfl ?_
  refine aw_getf rfl mg_121 rfl ?_
  refine aw rfl rfl ?_
  refine aw_c (v := nI 0) rfl (by decide) ?_
  refine aw_iastU rfl mg_131 rfl (by omega) (by decide) (by decide) mu_131 ?_
  refine aw rfl rfl ?_
  refine aw_getf rfl mg_121 rfl ?_
  refine aw rfl rfl ?_
  refine aw_c (v := nI 1) rfl (by decide) ?_
  refine aw_iastU rfl mg_133 rfl (by omega) (by decide) (by decide) mu_133 ?_
  refine aw rfl rfl ?_
  refine aw_getf rfl mg_121 rfl ?_
  refine aw rfl rfl ?_
  refine aw_c (v := nI 0) rfl (by decide) ?_
  refine aw_iastU rfl mg_134 rfl (by omega) (by decide) (by decide) mu_134 ?_
  refine aw rfl rfl ?_
  refine aw_getf rfl mg_121 rfl ?_
  refine aw rfl rfl ?_
  refine aw_c (v := nI 0) rfl (by decide) ?_
  refine aw_iastU rfl mg_142 rfl (by omega) (by decide) (by decide) mu_142 ?_
  refine aw rfl rfl ?_
  refine aw_getf rfl mg_121 rfl ?_
  refine aw rfl rfl ?_
  refine aw_c (v := nI 5) rfl (by decide) ?_
  refine aw_iastU rfl mg_143 rfl (by omega) (by decide) (by decide) mu_143 ?_
  refine aw rfl rfl ?_
  refine aw_getf rfl mg_121 rfl ?_
  refine aw rfl rfl ?_
  refine aw_c (v := nI 0) rfl (by decide) ?_
  refine aw_iastU rfl mg_144 rfl (by omega) (by decide) (by decide) mu_144 ?_
  refine aw_c (v := nI 0) rfl (by decide) ?_
  refine aw_ist (ls' := [_, _, _]) rfl rfl ?_
  obtain ⟨k1, hk1⟩ : ∃ k1 : Mk, k1 = ((k.1, va_up (va_up (va_up (va_up (va_up (va_up (va_up (k.2.1) 22 (upd (k.2.1 22) sd (nI 0))) 23 (upd (k.2.1 23) sd (nI 0))) 25 (upd (k.2.1 25) sd (nI 1))) 26 (upd (k.2.1 26) sd (nI 0))) 34 (upd (k.2.1 34) sd (nI 0))) 35 (upd (k.2.1 35) sd (nI 5))) 36 (upd (k.2.1 36) sd (nI 0)), k.2.2) : Mk) := ⟨_, rfl⟩
  have hv : k1.2.1 22 sd = nI 0 ∧ k1.2.1 23 sd = nI 0 ∧ k1.2.1 25 sd = nI 1 ∧ k1.2.1 26 sd = nI 0 ∧ k1.2.1 34 sd = nI 0 ∧ k1.2.1 35 sd = nI 5 ∧ k1.2.1 36 sd = nI 0 := by
    subst hk1
    exact ⟨upd_at, upd_at, upd_at, upd_at, upd_at, upd_at, upd_at⟩
  have hK1 : KPl sd k k1 := by
    subst hk1
    have hb : ∀ j, wd9 j = 1 → wd9 j * sd ≤ sd ∧ sd < wd9 j * sd + wd9 j := fun j e => by rw [e]; omega
    exact ((((((KPl.up hs (by decide) (hb 22 rfl)).tr (KPl.up hs (by decide) (hb 23 rfl))).tr (KPl.up hs (by decide) (hb 25 rfl))).tr (KPl.up hs (by decide) (hb 26 rfl))).tr (KPl.up hs (by decide) (hb 34 rfl))).tr (KPl.up hs (by decide) (hb 35 rfl))).tr (KPl.up hs (by decide) (hb 36 rfl))
  have hk24 : ∀ n, n = 24 ∨ (27 ≤ n ∧ n ≤ 31) → k1.2.1 n = k.2.1 n := fun n hn => by
    subst hk1
    exact (vu_ot (by omega)).trans ((vu_ot (by omega)).trans ((vu_ot (by omega)).trans ((vu_ot (by omega)).trans ((vu_ot (by omega)).trans ((vu_ot (by omega)).trans (vu_ot (by omega)))))))
  show AW am_P 0 0 186 51 [some (.ref 121), some (.int (nI sd)), some (.int (nI 0))] [] (mh g ((k.1, va_up (va_up (va_up (va_up (va_up (va_up (va_up (k.2.1) 22 (upd (k.2.1 22) sd (nI 0))) 23 (upd (k.2.1 23) sd (nI 0))) 25 (upd (k.2.1 25) sd (nI 1))) 26 (upd (k.2.1 26) sd (nI 0))) 34 (upd (k.2.1 34) sd (nI 0))) 35 (upd (k.2.1 35) sd (nI 5))) 36 (upd (k.2.1 36) sd (nI 0)), k.2.2) : Mk) v pl br lo c ct pr pt cm bf bt) Q
  rw [← hk1]
  refine aw_loop (α := Mk) (ll := fun j y => [some (.ref 121), some (.int (nI sd)), some (.int (nI j))]) (hh := fun j y => (mh g y v pl br lo c ct pr pt cm bf bt)) (I := fun j y => KPl sd k1 y ∧ (∀ n, ¬ (n = 32 ∨ n = 33 ∨ n = 37 ∨ n = 38) → y.2.1 n = k1.2.1 n) ∧ ∀ n, n = 32 ∨ n = 33 ∨ n = 37 ∨ n = 38 → ∀ i, i < j → y.2.1 n (3 * sd + i) = nI 0) (N := 3) (fun j y hj hI ih => ?_) (fun y hI => ?_) 0 k1 (Nat.zero_le _) ⟨⟨rfl, rfl, fun _ _ => rfl, SDf.rf⟩, fun _ _ => rfl, fun _ _ i hi => absurd hi (Nat.not_lt_zero i)⟩
  · skip
    refine aw rfl rfl ?_
    refine aw_c (v := nI 3) rfl (by decide) ?_
    refine aw_igen rfl (fun c53 => by omega) (fun c53 => ?_)
    refine aw rfl rfl ?_
    refine aw_getf rfl mg_121 rfl ?_
    refine aw_c (v := nI 3) rfl (by decide) ?_
    refine aw rfl rfl ?_
    refine aw_muln rfl ?_
    refine aw rfl rfl ?_
    refine aw_addn rfl ?_
    refine aw_c (v := nI 0) rfl (by decide) ?_
    refine aw_iastU rfl mg_140 rfl (by omega) (by decide) (by decide) mu_140 ?_
    refine aw rfl rfl ?_
    refine aw_getf rfl mg_121 rfl ?_
    refine aw_c (v := nI 3) rfl (by decide) ?_
    refine aw rfl rfl ?_
    refine aw_muln rfl ?_
    refine aw rfl rfl ?_
    refine aw_addn rfl ?_
    refine aw_c (v := nI 0) rfl (by decide) ?_
    refine aw_iastU rfl mg_141 rfl (by omega) (by decide) (by decide) mu_141 ?_
    refine aw rfl rfl ?_
    refine aw_getf rfl mg_121 rfl ?_
    refine aw_c (v := nI 3) rfl (by decide) ?_
    refine aw rfl rfl ?_
    refine aw_muln rfl ?_
    refine aw rfl rfl ?_
    refine aw_addn rfl ?_
    refine aw_c (v := nI 0) rfl (by decide) ?_
    refine aw_iastU rfl mg_145 rfl (by omega) (by decide) (by decide) mu_145 ?_
    refine aw rfl rfl ?_
    refine aw_getf rfl mg_121 rfl ?_
    refine aw_c (v := nI 3) rfl (by decide) ?_
    refine aw rfl rfl ?_
    refine aw_muln rfl ?_
    refine aw rfl rfl ?_
    refine aw_addn rfl ?_
    refine aw_c (v := nI 0) rfl (by decide) ?_
    refine aw_iastU rfl mg_146 rfl (by omega) (by decide) (by decide) mu_146 ?_
    refine aw_incn (c := 1) (ls' := [_, _, _]) rfl rfl (by decide) rfl ?_
    refine aw rfl rfl ?_
    refine ih (plU y (3 * sd + j)) ⟨hI.1.tr (plU_k hs hj), fun n hn => (plU_o hn).trans (hI.2.1 n hn), fun n hn i hi => ?_⟩
    rw [plU_a hn]
    by_cases e : i = j
    · subst e; exact upd_at
    · rw [upd_ne (by omega)]; exact hI.2.2 n hn i (by omega)
  · skip
    refine aw rfl rfl ?_
    refine aw_c (v := nI 3) rfl (by decide) ?_
    refine aw_igen rfl (fun c53 => ?_) (fun c53 => by omega)
    refine aw_vret rfl rfl (q y (hK1.tr hI.1) ?_ hI.2.2 (fun n hn => (hI.2.1 n (by omega)).trans (hk24 n hn)))
    rw [hI.2.1 22 (by omega), hI.2.1 23 (by omega), hI.2.1 25 (by omega), hI.2.1 26 (by omega), hI.2.1 34 (by omega), hI.2.1 35 (by omega), hI.2.1 36 (by omega)]
    exact hv
set_option maxRecDepth 8000 in
theorem l_X11c {Q : Option Value → am_H → Prop} (q : ∀ k1, KPl 0 i_k k1 → (k1.2.1 22 0 = nI 0 ∧ k1.2.1 23 0 = nI 0 ∧ k1.2.1 25 0 = nI 1 ∧ k1.2.1 26 0 = nI 0 ∧ k1.2.1 34 0 = nI 0 ∧ k1.2.1 35 0 = nI 5 ∧ k1.2.1 36 0 = nI 0) → (∀ n, n = 32 ∨ n = 33 ∨ n = 37 ∨ n = 38 → ∀ i, i < 3 → k1.2.1 n i = nI 0) ∧ (∀ n, n = 24 ∨ (27 ≤ n ∧ n ≤ 31) → k1.2.1 n 0 = i_k.2.1 n 0) → AW am_P 2 48 185 413 [some (.ref 121)] [] (mh g k1 (fun _ => 0) (fun _ => 0) 0 0 (fun _ => 0) (fun _ => 0) (fun _ => 0) (fun _ => 0) (fun _ => 0) (fun _ => 0) (fun _ => 0)) Q) : AW am_P 2 48 185 408 [some (.ref 121)] [] (mh g i_k (fun _ => 0) (fun _ => 0) 0 0 (fun _ => 0) (fun _ => 0) (fun _ => 0) (fun _ => 0) (fun _ => 0) (fun _ => 0) (fun _ => 0)) Q := by
  refine aw rfl rfl ?_
  refine aw_c (v := nI 0) rfl (by decide) ?_
  refine aw_cv (d1 := 0) (L1 := 0) rfl rfl mg_121 rfl rfl (by decide) (by decide) (Nat.le_of_ble_eq_true rfl) (c_pl2 (sd := 0) (by decide) (fun k1 hK1 hv1 hz1 h24 => ?_))
  exact q k1 hK1 hv1 ⟨fun n hn i hi => by have := hz1 n hn i hi; rw [show 3 * 0 + i = i by omega] at this; exact this, fun n hn => by rw [h24 n hn]⟩
end C0
section C1
variable {f : Nat → am_C} {m : Nat} {l : List am_C} {Q : Option Value → am_H → Prop} {P Z : Nat → Nat → Nat} {TD : Nat → Nat} {tp : Nat → Int32}
set_option maxRecDepth 8000 in
theorem l_X11b {g : am_H} {k : Mk} {v pl : Nat → Int32} {br lo : Int32} {c ct pr pt cm bf bt : Nat → Int32} (hK : KY k) (h1 : k.1 = i_k.1) (h2 : k.2.1 22 0 = nI 0 ∧ k.2.1 23 0 = nI 0 ∧ k.2.1 25 0 = nI 1 ∧ k.2.1 26 0 = nI 0 ∧ k.2.1 34 0 = nI 0 ∧ k.2.1 35 0 = nI 5 ∧ k.2.1 36 0 = nI 0) (h3 : ∀ n, n = 32 ∨ n = 33 ∨ n = 37 ∨ n = 38 → ∀ i, i < 3 → k.2.1 n i = nI 0) (h4 : ∀ n, n = 24 ∨ n = 27 ∨ n = 28 ∨ n = 29 ∨ n = 30 ∨ n = 31 → k.2.1 n 0 = nI 0) (h68 : ∀ s, s < 3 → k.2.1 68 s = nI 0) (q : ∀ k', (∀ T, DSt T → MS k' T (fun _ => []) (bgS T) 0 P 0 TD (fun _ => false) Z 0 tp (-1) 0) → Q none (mh g k' v pl br lo c ct pr pt cm bf bt)) : AW am_P 2 48 185 898 [some (.ref 121)] [] (mh g k v pl br lo c ct pr pt cm bf bt) Q := by
  refine aw rfl rfl ?_
  refine aw_getf rfl mg_121 rfl ?_
  refine aw_c (v := nI 0) rfl (by decide) ?_
  refine aw_c (v := nI 1) rfl (by decide) ?_
  refine aw_iastU rfl mg_130 rfl (by omega) (by decide) (by decide) mu_130 ?_
  refine aw rfl rfl ?_
  refine aw_getf rfl mg_121 rfl ?_
  refine aw_c (v := nI 0) rfl (by decide) ?_
  refine aw_c (v := nI 2) rfl (by decide) ?_
  refine aw_iastU rfl mg_131 rfl (by omega) (by decide) (by decide) mu_131 ?_
  refine aw rfl rfl ?_
  refine aw_getf rfl mg_121 rfl ?_
  refine aw_c (v := nI 1) rfl (by decide) ?_
  refine aw_c (v := nI 6) rfl (by decide) ?_
  refine aw_iastU rfl mg_132 rfl (by omega) (by decide) (by decide) mu_132 ?_
  refine aw rfl rfl ?_
  refine aw_getf rfl mg_121 rfl ?_
  refine aw_c (v := nI 0) rfl (by decide) ?_
  refine aw_c (v := nI 1) rfl (by decide) ?_
  refine aw_iastU rfl mg_134 rfl (by omega) (by decide) (by decide) mu_134 ?_
  refine aw rfl rfl ?_
  refine aw_getf rfl mg_121 rfl ?_
  refine aw_c (v := nI 0) rfl (by decide) ?_
  refine aw_c (v := nI 1) rfl (by decide) ?_
  refine aw_iastU rfl mg_135 rfl (by omega) (by decide) (by decide) mu_135 ?_
  refine aw rfl rfl ?_
  refine aw_getf rfl mg_121 rfl ?_
  refine aw_c (v := nI 0) rfl (by decide) ?_
  refine aw_c (v := nI 6) rfl (by decide) ?_
  refine aw_iastU rfl mg_136 rfl (by omega) (by decide) (by decide) mu_136 ?_
  refine aw rfl rfl ?_
  refine aw_getf rfl mg_121 rfl ?_
  refine aw_c (v := nI 0) rfl (by decide) ?_
  refine aw_c (v := nI 1) rfl (by decide) ?_
  refine aw_iastU rfl mg_137 rfl (by omega) (by decide) (by decide) mu_137 ?_
  obtain ⟨k7, hk7⟩ : ∃ k7 : Mk, k7 = ((k.1, va_up (va_up (va_up (va_up (va_up (va_up (va_up (k.2.1) 22 (upd (k.2.1 22) 0 (nI 1))) 23 (upd (k.2.1 23) 0 (nI 2))) 24 (upd (k.2.1 24) 1 (nI 6))) 26 (upd (k.2.1 26) 0 (nI 1))) 27 (upd (k.2.1 27) 0 (nI 1))) 28 (upd (k.2.1 28) 0 (nI 6))) 29 (upd (k.2.1 29) 0 (nI 1)), k.2.2) : Mk) := ⟨_, rfl⟩
  have hk71 : k7.1 = k.1 := by subst hk7; rfl
  have h187 : k7.1 18 = nI 0 := by rw [hk71, h1]; rfl
  show AW am_P 2 48 185 949 [some (.ref 121)] [] (mh g ((k.1, va_up (va_up (va_up (va_up (va_up (va_up (va_up (k.2.1) 22 (upd (k.2.1 22) 0 (nI 1))) 23 (upd (k.2.1 23) 0 (nI 2))) 24 (upd (k.2.1 24) 1 (nI 6))) 26 (upd (k.2.1 26) 0 (nI 1))) 27 (upd (k.2.1 27) 0 (nI 1))) 28 (upd (k.2.1 28) 0 (nI 6))) 29 (upd (k.2.1 29) 0 (nI 1)), k.2.2) : Mk) v pl br lo c ct pr pt cm bf bt) Q
  rw [← hk7]
  refine aw rfl rfl ?_
  refine aw_cv (d1 := 0) (L1 := 0) rfl rfl mg_121 rfl rfl (by decide) (by decide) (Nat.le_of_ble_eq_true rfl) (c_X11_begins (lv := 0) (by decide) h187 (fun k8 e8 r0 r3 r4 => ?_))
  refine aw rfl rfl ?_
  refine aw_cv (d1 := 0) (L1 := 0) rfl rfl mg_121 rfl rfl (by decide) (by decide) (Nat.le_of_ble_eq_true rfl) (c_X11_keepsRow (fun ff hf => ?_))
  refine aw_vret rfl rfl (q _ (fun T hT => ?_))
  have hG := hT.gs
  obtain ⟨s1, s2, s3, s4, s5⟩ := bg_sg hG
  have hT4 := hT.1.2.2.2.2.1
  have ek : (∀ n, ¬ n = 54 → k8.2.1 n = k7.2.1 n) := e8.2.2
  have e18 : k8.1 = i_k.1 := by rw [e8.1, hk71]; exact h1
  refine ⟨⟨0, ?_⟩, hG, ?_, ⟨s1, by omega, by omega, by omega⟩, ⟨Nat.zero_le _, ?_, fun i hi => absurd hi (Nat.not_lt_zero i)⟩, ⟨Nat.zero_le _, ?_, fun i hi => absurd hi (Nat.not_lt_zero i)⟩, fun s hs => ⟨?_, fun w => absurd w Bool.false_ne_true⟩, ⟨Nat.zero_le _, ?_, fun i hi => absurd hi (Nat.not_lt_zero i)⟩, ?_, fun i hi => ?_, by decide⟩
  · refine DSk.mr ?_ hT (by show k8.1 18 = nI 0; rw [e18]; rfl)
    have ev : ∀ n, 22 ≤ n → n ≤ 38 → va_up k8.2.1 53 ff n = k7.2.1 n := fun n hn hn2 => (vu_ot (by omega)).trans (ek n (by omega))
    unfold DSk
    show (va_up k8.2.1 53 ff 22 0 = nI 1 ∧ va_up k8.2.1 53 ff 23 0 = nI 2 ∧ va_up k8.2.1 53 ff 25 0 = nI 1 ∧ va_up k8.2.1 53 ff 26 0 = nI 1 ∧ va_up k8.2.1 53 ff 34 0 = nI 0 ∧ va_up k8.2.1 53 ff 35 0 = nI 5 ∧ va_up k8.2.1 53 ff 36 0 = nI 0) ∧ (va_up k8.2.1 53 ff 24 0 = nI 0 ∧ va_up k8.2.1 53 ff 24 1 = nI 6) ∧ (va_up k8.2.1 53 ff 27 0 = nI 1 ∧ va_up k8.2.1 53 ff 28 0 = nI 6 ∧ va_up k8.2.1 53 ff 29 0 = nI 1 ∧ va_up k8.2.1 53 ff 30 0 = nI 0 ∧ va_up k8.2.1 53 ff 31 0 = nI 0) ∧ ∀ n, n = 32 ∨ n = 33 ∨ n = 37 ∨ n = 38 → ∀ i, i < 3 → va_up k8.2.1 53 ff n i = nI 0
    rw [ev 22 (by decide) (by decide), ev 23 (by decide) (by decide), ev 25 (by decide) (by decide), ev 26 (by decide) (by decide), ev 34 (by decide) (by decide), ev 35 (by decide) (by decide), ev 36 (by decide) (by decide), ev 24 (by decide) (by decide), ev 27 (by decide) (by decide), ev 28 (by decide) (by decide), ev 29 (by decide) (by decide), ev 30 (by decide) (by decide), ev 31 (by decide) (by decide)]
    subst hk7
    refine ⟨⟨rfl, rfl, h2.2.2.1, rfl, h2.2.2.2.2.1, h2.2.2.2.2.2.1, h2.2.2.2.2.2.2⟩, ⟨h4 24 (by omega), rfl⟩, ⟨rfl, rfl, rfl, h4 30 (by omega), h4 31 (by omega)⟩, fun n hn i hi => ?_⟩
    rw [ev n (by omega) (by omega)]
    refine Eq.trans ?_ (h3 n hn i hi)
    rcases hn with rfl | rfl | rfl | rfl <;> rfl
  · show NR T (va_up k8.2.1 53 ff 53) (bgS T)
    rw [vu_at]
    refine bg_nr hG (fun j hj => ?_) ?_ (fun j x1 x2 => (hf j x2).trans (r4 j x1 x2))
    · rw [hf j (by omega), r0 j hj, hT.2.2.2.1 j hj, show 3 * 0 + j = j by omega]
      subst hk7
      exact h3 32 (by omega) j hj
    · rw [hf 3 (by decide), r3, hT4]
      subst hk7
      exact h2.2.2.2.2.1
  · show k8.1 58 = nI 0; rw [e18]; rfl
  · show k8.1 63 = nI 0; rw [e18]; rfl
  · show va_up k8.2.1 53 ff 68 s = _
    rw [vu_ot (by omega), ek 68 (by omega)]
    subst hk7
    exact h68 s hs
  · show k8.1 2 = nI 0; rw [e18]; rfl
  · show k8.1 17 = -1; rw [e18]; rfl
  · show k8.2.2 9 i = _
    rw [e8.2.1]
    subst hk7
    exact hK i hi
theorem c_X11_init (hl : 8 + l.length = 121) (q : ∀ k m', m' = m + 32429 → (∀ T, DSt T → MS k T (fun _ => []) (bgS T) 0 P 0 TD (fun _ => false) Z 0 tp (-1) 0) → Q none (mh (bh f m' (l ++ i_m)) k (fun _ => 0) (fun _ => 0) 0 0 (fun _ => 0) (fun _ => 0) (fun _ => 0) (fun _ => 0) (fun _ => 0) (fun _ => 0) (fun _ => 0))) : AC am_P 2 48 185 [.ref 121] (bh f m (l ++ [.inl (11, [.int 0, .null, .int 0, .null, .int 0, .null, .null, .null, .null, .null, .int 0, .int 0, .int 0, .int 0, .int 0, .int 0, .int 0, .int 0, .int 0, .int 0, .int 0, .null, .null, .null, .null, .null, .null, .null, .null, .null, .null, .null, .null, .null, .null, .null, .null, .null, .null, .int 0, .null, .null, .null, .null, .null, .int 0, .null, .null, .null, .int 0, .null, .null, .int 0, .null, .null, .int 0, .null, .null, .int 0, .null, .null, .null, .null, .int 0, .null, .null, .null, .null, .null, .null])])) Q := by
  refine AC.of (ls := [some (.ref 121)]) rfl ?_
  refine l_X11a (b := 121) hl (fun m' hm' => ?_)
  show AW am_P 2 48 185 408 [some (.ref 121)] [] (bh f m' (l ++ i_m)) Q
  refine (congrArg (fun w => AW am_P 2 48 185 408 [some (.ref 121)] [] w Q) (i_onM hl)).mpr ?_
  have q := fun k => q k m' hm'
  generalize bh f m' (l ++ i_m) = g at q ⊢
  refine l_X11c (fun k1 hK1 hv1 hz1 => ?_)
  have hY : KYn k1 k1 0 := ⟨rfl, rfl, fun i hi => absurd hi (Nat.not_lt_zero i)⟩
  refine l_key0 hY (fun k2 hY => ?_)
  refine l_key1 hY (fun k3 hY => ?_)
  refine l_key2 hY (fun k4 hY => ?_)
  refine l_key3 hY (fun k5 hY => ?_)
  refine l_key4 hY (fun k6 hY => ?_)
  refine l_key5 hY (fun k7 hY => ?_)
  refine l_key6 hY (fun k8 hY => ?_)
  refine l_key7 hY (fun k9 hY => ?_)
  refine l_key8 hY (fun k10 hY => ?_)
  refine l_key9 hY (fun k11 hY => ?_)
  refine l_key10 hY (fun k12 hY => ?_)
  refine l_key11 hY (fun k13 hY => ?_)
  refine l_key12 hY (fun k14 hY => ?_)
  refine l_key13 hY (fun k15 hY => ?_)
  refine l_key14 hY (fun k16 hY => ?_)
  refine l_key15 hY (fun k17 hY => ?_)
  refine l_key16 hY (fun k18 hY => ?_)
  refine l_key17 hY (fun k19 hY => ?_)
  refine l_key18 hY (fun k20 hY => ?_)
  refine l_key19 hY (fun k21 hY => ?_)
  refine l_key20 hY (fun k22 hY => ?_)
  refine l_key21 hY (fun k23 hY => ?_)
  refine l_key22 hY (fun k24 hY => ?_)
  have hs : ∀ n, n = 24 ∨ n = 27 ∨ n = 28 ∨ n = 29 ∨ n = 30 ∨ n = 31 → k24.2.1 n 0 = nI 0 := fun n hn => by
    rw [hY.2.1]
    have h9 : k1.2.1 n 0 = i_k.2.1 n 0 := by
      exact hz1.2 n (by omega)
    rw [h9]; rfl
  refine l_X11b hY.2.2 (hY.1.trans hK1.1) (by rw [hY.2.1]; exact hv1) (by rw [hY.2.1]; exact hz1.1) hs (fun s hs => ?_) q
  rw [hY.2.1, hK1.2.2.1 68 (by omega)]
  rfl
end C1
