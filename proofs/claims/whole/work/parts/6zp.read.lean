/-! ===== the class: readText ===== -/
theorem jr_8 {s : Ps} {D : Dt} {n c : Nat} {p : Int32} (hj : (if ¬ s.2.1.1 = 0 then (s.2.1.1, nI s.2.1.2) else if ¬ s.2.2.1 = 0 then (s.2.2.1, nI s.2.2.2) else if whB D = true then (0, -1) else (7, nI n)) = (c, p)) (h1 : s.2.1.1 < 8) (h2 : s.2.1.1 = 0 → s.2.2.1 < 8) : c < 8 := by
  split at hj
  · injection hj with e1 _; rw [← e1]; exact h1
  · rename_i hf
    split at hj
    · injection hj with e1 _; rw [← e1]; exact h2 (Decidable.of_not_not hf)
    · split at hj <;> (injection hj with e1 _; rw [← e1]; decide)
def KZ (K K' : Ck) : Prop := (∀ m, m < 2 ∨ 15 < m → K'.1 m = K.1 m) ∧ (∀ j, ¬ (j = 43 ∨ j = 44 ∨ j = 45) → K'.2.1 j = K.2.1 j) ∧ K'.2.2.1 = K.2.2.1 ∧ K'.2.2.2.2 = K.2.2.2.2
theorem KZ.tr {K K1 K2 : Ck} (h : KZ K K1) (h1 : KZ K1 K2) : KZ K K2 := ⟨fun n hn => (h1.1 n hn).trans (h.1 n hn), fun j hj => (h1.2.1 j hj).trans (h.2.1 j hj), h1.2.2.1.trans h.2.2.1, h1.2.2.2.trans h.2.2.2⟩
theorem KQ7.kz {K K' : Ck} (h : KQ7 K K') : KZ K K' := ⟨fun n hn => h.1 n (by omega), fun j _ => by rw [h.2.1], h.2.2.1, h.2.2.2⟩
theorem KY3.kz {K K' : Ck} (h : KY3 K K') : KZ K K' := ⟨fun n hn => h.1 n (by omega), h.2.1, by rw [h.2.2], by rw [h.2.2]⟩
theorem CLR.d0 {T : Sd} {u : Ua} {K : Ck} (h : CLR T) : CDt T u K [] D0 True := by
  obtain ⟨c0, c1, c2, c3, c4, c5, c6, c7, c8, s0, s24, s6, s7, s9⟩ := h
  refine ⟨⟨c2, c4, c5, c6, s6, s7⟩, ⟨c3, by decide, s24, fun j hj => absurd hj (Nat.not_lt_zero _)⟩, ⟨⟨c7, by decide, fun i hi => absurd hi (Nat.not_lt_zero _)⟩, by rw [c8]; decide, fun i hi => Or.inl ⟨s9 i hi, rfl⟩⟩, c1, by decide, by rw [c0]; decide, fun w => absurd rfl w, fun _ => ⟨fun e he => absurd he (Nat.not_lt_zero _), fun a ha _ => s0 a ha⟩⟩
theorem D0_g : gD D0 := by
  refine ⟨by decide, by decide, by decide, by decide, fun i _ => ⟨Nat.zero_le _, Nat.zero_le _⟩, fun x hx => by simp [D0] at hx⟩
theorem tk_tn {K : Ck} {x : Nat → Int32} {n : Nat} (h12 : K.1 12 = nI n) (hn : n ≤ 2000) (h9 : ∀ i, i < n → K.2.1 9 i = x i) : TN (tkS x n) K n := by
  refine ⟨h12, hn, fun i _ h1 => ?_⟩
  obtain ⟨a1, a2, a3, a4, a5⟩ := lL_1 h1
  have hl : (lL x n (ps9 x n i)).length = run ltB x n (ps9 x n i) - ps9 x n i := by rw [a5, ltL_len]
  have hlo := run_lo (P := ltB) (x := x) (n := n) (i := ps9 x n i)
  have hhi := run_hi (P := ltB) (x := x) (Nat.le_of_lt a1)
  have hin : ∀ j, j < run ltB x n (ps9 x n i) - ps9 x n i → ltB (x (ps9 x n i + j)) = true := fun j hj => (run_in (P := ltB) (n := n) (Nat.le_add_right _ j) (by omega)).1
  refine ⟨by show ps9 x n i + (lL x n (ps9 x n i)).length ≤ n; omega, ?_, fun j hj => ?_⟩
  · show ltO (lL x n (ps9 x n i))
    rw [a5]
    exact ltL_ok _ _ hin
  · have hj : j < (lL x n (ps9 x n i)).length := hj
    rw [hl] at hj
    show K.2.1 9 (ps9 x n i + j) = nI (96 + (lL x n (ps9 x n i)).getD j 0)
    rw [h9 _ (by omega), a5, ltL_at _ _ _ hj]
    exact (lt_n (hin j hj)).1
section C1
variable {z : Bool} {g : am_H} {T : Sd} {u : Ua} {X : Sd × Ua} {K : Ck} {rf : Nat → Nat}
variable {Y : Tk} {s : Ps} {C : List Int32} {D : Dt} {n : Nat}
theorem l_tells {Q : Option Value → am_H → Prop} (hg : STr g) (hY : YV Y) (hz : rf 2 = zq z) (hn : n ≤ 2000) : ∀ (m i : Nat) (D : Dt) (s : Ps) (K : Ck) (T : Sd) (u : Ua) (C : List Int32) (_ : i + m = 401) (_ : RS Y K s) (_ : TN Y K n) (_ : s.2.1.1 = 0 → (CDt T u K C D (s.2.2.1 = 0) ∧ (s.2.2.1 = 0 → gD D)) ∧ C.length ≤ s.1 ∧ i ≤ s.1) (_ : ∀ K' T' u' C' c p, (if ¬ (tls Y m D s).2.2.1.1 = 0 then ((tls Y m D s).2.2.1.1, nI (tls Y m D s).2.2.1.2) else if ¬ (tls Y m D s).2.2.2.1 = 0 then ((tls Y m D s).2.2.2.1, nI (tls Y m D s).2.2.2.2) else if whB (tls Y m D s).1 = true then (0, -1) else (7, nI n)) = (c, p) → K'.1 9 = p → KZ K K' → c < 8 → (c = 0 → CDt T' u' K' C' (tls Y m D s).1 True ∧ gD (tls Y m D s).1 ∧ whB (tls Y m D s).1 = true) → Q (some (.int (nI c))) (cz z g T' u' X K' rf)), AW am_P 8 192 43 51 [some (.ref 40), some (.ref (zq z)), some (.int (nI n)), some (.int (nI i))] [] (cz z g T u X K rf) Q := by
  have hend : ∀ (i : Nat) (D : Dt) (s : Ps) (K : Ck) (T : Sd) (u : Ua) (C : List Int32) (_ : RS Y K s) (_ : s.2.1.1 = 0 → CDt T u K C D (s.2.2.1 = 0) ∧ (s.2.2.1 = 0 → gD D)) (_ : ∀ K' T' u' C' c p, (if ¬ s.2.1.1 = 0 then (s.2.1.1, nI s.2.1.2) else if ¬ s.2.2.1 = 0 then (s.2.2.1, nI s.2.2.2) else if whB D = true then (0, -1) else (7, nI n)) = (c, p) → K'.1 9 = p → KZ K K' → c < 8 → (c = 0 → CDt T' u' K' C' D True ∧ gD D ∧ whB D = true) → Q (some (.int (nI c))) (cz z g T' u' X K' rf)), AW am_P 8 192 43 82 [some (.ref 40), some (.ref (zq z)), some (.int (nI n)), some (.int (nI i))] [] (cz z g T u X K rf) Q := by
    intro i D s K T u C hR hD q
    refine aw rfl rfl ?_
    refine aw rfl rfl ?_
    refine aw_cv (d1 := 4) (L1 := 84) rfl rfl zg_40 rfl rfl (by decide) (by decide) (Nat.le_of_ble_eq_true rfl) (c_X4_judge hz hn hR hD (fun K1 c p hj k8 k9 k1 k2 => ?_))
    refine aw rfl rfl ?_
    refine aw_getfE rfl zg_40 rfl (congrArg Value.int k8) ?_
    exact aw_iret rfl rfl (q K1 T u C c p hj k9 ⟨fun m hm => k1 m (by omega), fun j _ => by rw [k2], by rw [k2], by rw [k2]⟩ (jr_8 hj hR.2.2.1 (fun hf => (hR.2.2.2.2.1 hf).2.2.1)) (fun hc => by
      subst hc
      have hf : s.2.1.1 = 0 := Decidable.of_not_not (fun w => by rw [if_pos w] at hj; injection hj with e1 e2; exact w e1)
      rw [if_neg (fun w => w hf)] at hj
      have hl : s.2.2.1 = 0 := Decidable.of_not_not (fun w => by rw [if_pos w] at hj; injection hj with e1 e2; exact w e1)
      rw [if_neg (fun w => w hl)] at hj
      have hw : whB D = true := Decidable.of_not_not (fun w => by rw [if_neg w] at hj; injection hj with e1 e2; exact absurd e1 (by decide))
      obtain ⟨⟨d1, d2, d3, d4⟩, d5⟩ := hD hf
      exact ⟨⟨d1, d2.cg rfl (fun _ _ _ => rfl) (by rw [k2]), d3, d4.cg (fun _ _ => rfl) rfl (fun _ => hl)⟩, d5 hl, hw⟩))
  intro m
  induction m with
  | zero =>
    intro i D s K T u C him hR hN hD q
    have hff : ¬ s.2.1.1 = 0 := fun w => by have h1 := (hD w).2.2; have h2 := hR.2.1; omega
    have hi9 : i = 401 := by omega
    subst hi9
    refine aw rfl rfl ?_
    refine aw_c (v := nI 400) rfl (by decide) ?_
    refine aw_igt rfl (fun _ => ?_) (fun c => absurd (by decide) c)
    exact hend 401 D s K T u C hR (fun w => (hD w).1) q
  | succ m ih =>
    intro i D s K T u C him hR hN hD q
    have hf8 := hR.2.2.1
    have h8 := hR.2.2.2.1
    refine aw rfl rfl ?_
    refine aw_c (v := nI 400) rfl (by decide) ?_
    refine aw_igtn rfl (fun c55 => by omega) (fun c55 => ?_)
    refine aw rfl rfl ?_
    refine aw_getfE rfl zg_40 rfl (congrArg Value.int h8) ?_
    refine aw_nen rfl (fun c62 => ?_) (fun c62 => ?_)
    · have et : tls Y (m + 1) D s = (D, s) := by rw [tls, if_neg (fun w => c62 w.1)]
      rw [et] at q
      exact hend i D s K T u C hR (fun w => (hD w).1) q
    · have hs0 : s.2.1.1 = 0 := c62
      have hD0 := hD hs0
      have htk := (hR.2.2.2.2.1 hs0).2.1
      refine aw rfl rfl ?_
      refine aw_getf rfl zg_40 rfl ?_
      refine aw_eq rfl (fun c69 => ?_) (fun c69 => ?_)
      · have et : tls Y (m + 1) D s = (D, s) := by rw [tls, if_neg (fun w => w.2 ((tk_end htk).mp c69))]
        rw [et] at q
        exact hend i D s K T u C hR (fun w => (hD w).1) q
      · have hk0 : ¬ Y.1 s.1 = 0 := fun w => c69 ((tk_end htk).mpr w)
        refine aw rfl rfl ?_
        refine aw_cv (d1 := 6) (L1 := 134) rfl rfl zg_40 rfl rfl (by decide) (by decide) (Nat.le_of_ble_eq_true rfl) (c_X4_takeTell hg hY hz hN hR hs0 hD0.1.1 hD0.2.1 (fun K1 T1 u1 C1 hR1 hK1 ok1 => ?_))
        refine aw_incn (c := 1) (ls' := [_, _, _, _]) rfl rfl (by decide) rfl ?_
        refine aw rfl rfl ?_
        have et : tls Y (m + 1) D s = tls Y m (tl Y D s).1 (tl Y D s).2 := by rw [tls, if_pos ⟨hs0, hk0⟩]
        rw [et] at q
        refine ih (i + 1) (tl Y D s).1 (tl Y D s).2 K1 T1 u1 C1 (by omega) hR1 (hN.kq (hK1.1 12 (by omega)) (by rw [hK1.2.1])) (fun hg9 => ?_) (fun K2 T2 u2 C2 c p b1 b2 b3 b8 b4 => q K2 T2 u2 C2 c p b1 b2 (hK1.kz.tr b3) b8 b4)
        obtain ⟨o1, o2, o3⟩ := ok1 hg9
        exact ⟨⟨o1, tl_g hg9 hD0.1.2⟩, o2, by omega⟩
theorem c_X4_readText {Q : Option Value → am_H → Prop} (hg : STr g) (hn : n ≤ 2000) (hB : ∀ j, j < n → K.2.1 9 j ≤ 127) (q : ∀ K' T' u' C', K'.1 9 = (rdR (tkS (K.2.1 9) n) n).2 → KZ K K' → (rdR (tkS (K.2.1 9) n) n).1 < 8 → ((rdR (tkS (K.2.1 9) n) n).1 = 0 → CDt T' u' K' C' (rd (tkS (K.2.1 9) n)).1 True ∧ gD (rd (tkS (K.2.1 9) n)).1 ∧ whB (rd (tkS (K.2.1 9) n)).1 = true) → Q (some (.int (nI (rdR (tkS (K.2.1 9) n) n).1))) (cz z g T' u' X K' (va_up rf 2 (zq z)))) : AC am_P 8 192 43 [.ref 40, .ref (zq z), .int (nI n)] (cz z g T u X K rf) Q := by
  refine AC.of (ls := [_, _, _, _]) rfl ?_
  refine aw rfl rfl ?_
  refine aw rfl rfl ?_
  refine aw_putfU rfl zg_40 rfl rfl (by decide) zp_40_1 ?_
  refine aw rfl rfl ?_
  refine aw_getfE rfl zg_40 rfl (congrArg Value.ref (vu_at : va_up rf 2 (zq z) 2 = zq z)) ?_
  refine aw_cv (d1 := 2) (L1 := 43) rfl rfl zs_0 rfl rfl (by decide) (by decide) (Nat.le_of_ble_eq_true rfl) (c_X7_clear (fun T1 hc1 => ?_))
  refine aw rfl rfl ?_
  refine aw_c (v := nI 0) rfl (by decide) ?_
  refine aw_putfU rfl zg_40 rfl rfl (by decide) zp_40_8 ?_
  refine aw rfl rfl ?_
  refine aw_c (v := -1) rfl (by decide) ?_
  refine aw_putfU rfl zg_40 rfl rfl (by decide) zp_40_9 ?_
  refine aw rfl rfl ?_
  refine aw_c (v := nI 0) rfl (by decide) ?_
  refine aw_putfU rfl zg_40 rfl rfl (by decide) zp_40_10 ?_
  refine aw rfl rfl ?_
  refine aw_c (v := -1) rfl (by decide) ?_
  refine aw_putfU rfl zg_40 rfl rfl (by decide) zp_40_11 ?_
  refine aw rfl rfl ?_
  refine aw_getf rfl zg_40 rfl ?_
  refine aw rfl rfl ?_
  refine aw_cv (d1 := 7) (L1 := 170) rfl rfl zg_42 rfl rfl (by decide) (by decide) (Nat.le_of_ble_eq_true rfl) (c_X9_scan hg hn hB (fun K1 k1 k2 k3 => ?_))
  refine aw rfl rfl ?_
  refine aw_c (v := -1) rfl (by decide) ?_
  refine aw_putfU rfl zg_40 rfl rfl (by decide) zp_40_2 ?_
  refine aw rfl rfl ?_
  refine aw_cv (d1 := 0) (L1 := 0) rfl rfl zg_40 rfl rfl (by decide) (by decide) (Nat.le_of_ble_eq_true rfl) (c_take0 (K := (va_up K1.1 2 (-1), K1.2)) k1 (show K1.1 8 = nI 0 by rw [k3.1 8 (by omega)]; rfl) rfl (show K1.1 10 = nI 0 by rw [k3.1 10 (by omega)]; rfl) (show K1.1 9 = -1 by rw [k3.1 9 (by omega)]; rfl) (fun K2 hR2 hK2 => ?_))
  refine aw_c (v := nI 0) rfl (by decide) ?_
  refine aw_ist (ls' := [_, _, _, _]) rfl rfl ?_
  have e8 : K1.1 8 = nI 0 := by rw [k3.1 8 (by omega)]; rfl
  have e9 : K1.1 9 = -1 := by rw [k3.1 9 (by omega)]; rfl
  have e10 : K1.1 10 = nI 0 := by rw [k3.1 10 (by omega)]; rfl
  have kz1 : KZ K K2 := (show KZ K (va_up (va_up (va_up (va_up K.1 8 (nI 0)) 9 (-1)) 10 (nI 0)) 11 (-1), K.2) from ⟨fun m hm => by (have f8 : ¬ m = 8 := by omega); (have f9 : ¬ m = 9 := by omega); (have f10 : ¬ m = 10 := by omega); (have f11 : ¬ m = 11 := by omega); simp only [va_up, if_neg f8, if_neg f9, if_neg f10, if_neg f11], fun _ _ => rfl, rfl, rfl⟩).tr (k3.kz.tr ((show KZ K1 (va_up K1.1 2 (-1), K1.2) from ⟨fun m hm => vu_ot (by omega), fun _ _ => rfl, rfl, rfl⟩).tr hK2.k7.kz))
  refine l_tells (Y := (tkS (K.2.1 9) n)) hg tk_yv vu_at hn 401 0 D0 s00 K2 T1 u [] rfl hR2 ?_ (fun _ => ⟨⟨?_, fun _ => D0_g⟩, Nat.zero_le _, Nat.zero_le _⟩) (fun K3 T3 u3 C3 c p b1 b2 b3 b8 b4 => ?_)
  · refine tk_tn ?_ hn (fun i _ => ?_)
    · rw [hK2.1 12 (by omega)]
      exact k2
    · rw [kz1.2.1 9 (by omega)]
  · obtain ⟨d1, d2, d3, d4⟩ := hc1.d0 (u := u) (K := K2)
    exact ⟨d1, d2, d3, d4.cg (fun _ _ => rfl) rfl (fun _ => trivial)⟩
  · have e : rdR (tkS (K.2.1 9) n) n = (c, p) := b1
    rw [e] at q
    exact q K3 T3 u3 C3 b2 (kz1.tr b3) b8 b4
end C1
