/-! ===== the class's reader: takeTell ===== -/
theorem yd_mo {Y : Tk} : ∀ (n : Nat) (w : Bool) (d : Nat) (l : List Nat) (e : Ex) (s : Ps), s.1 ≤ (yd Y n w d l e s).2.1 := by
  intro n
  induction n with
  | zero => intro w d l e s; exact Nat.le_refl _
  | succ n ih =>
    intro w d l e s
    have hx : ∀ (w' : Bool) (d' : Nat) (l' : List Nat) (e' : Ex), s.1 ≤ (yd Y n w' d' l' e' (go Y s)).2.1 := fun w' d' l' e' => Nat.le_trans go_mo (ih _ _ _ _ _)
    rw [yd]
    split
    · exact Nat.le_refl _
    · cases w with
      | true =>
        show s.1 ≤ (if Y.1 s.1 = 6 then _ else _ : Ex × Ps).2.1
        split
        · split
          · exact fl_mo
          · exact hx _ _ _ _
        · split
          · exact hx _ _ _ _
          · split
            · exact hx _ _ _ _
            · exact fl_mo
      | false =>
        show s.1 ≤ (if Y.1 s.1 = 7 ∧ 0 < d then _ else _ : Ex × Ps).2.1
        split
        · exact hx _ _ _ _
        · split
          · exact hx _ _ _ _
          · split
            · exact fl_mo
            · exact Nat.le_refl _
theorem lwB_mo {Y : Tk} {s : Ps} : s.1 ≤ (lwB Y s).2.1 := Nat.le_trans go_mo (Nat.le_trans (yd_mo _ _ _ _ _ _) (Nat.le_trans mu_mo (Nat.le_trans (yd_mo _ _ _ _ _ _) (Nat.le_trans mu_mo (Nat.le_trans (yd_mo _ _ _ _ _ _) mu_mo)))))
theorem lwL_mo {Y : Tk} : ∀ (n : Nat) (s : Ps), s.1 ≤ (lwL Y n s).2.1 := by
  intro n
  induction n with
  | zero => intro s; rw [lwL]; split <;> first | exact fl_mo | exact yd_mo _ _ _ _ _ _
  | succ n ih => intro s; rw [lwL]; split <;> first | exact Nat.le_trans lwB_mo (ih _) | exact yd_mo _ _ _ _ _ _
section D1
variable {T T' : Sd} {u : Ua} {K K' : Ck} {C : List Int32} {D : Dt} {Y : Tk} {s : Ps}
theorem CRw.row {l : List Nat} (h : CRw T D (s.2.2.1 = 0)) (hr : ¬ D.1.length = 4) (hl : l.length ≤ 8) (h1 : T'.1 1 = T.1 1 + 1) (h0 : T'.1 0 = rwW (T.1 1) (T.1 0) l) {good : Prop} (hgd : good → s.2.2.1 = 0 ∧ rwX (rwW (T.1 1) (T.1 0) l) l = false) (hs : rwX (rwW (T.1 1) (T.1 0) l) l = false → (∀ a, a < l.length → T'.2 0 (T.1 1 * 8 + a) = soL (l.getD a 0)) ∧ (∀ a, ¬ (T.1 1 * 8 ≤ a ∧ a < T.1 1 * 8 + l.length) → T'.2 0 a = T.2 0 a)) : CRw T' (D.1 ++ [l], D.2) good := by
  obtain ⟨a1, a2, a3, a4, a5⟩ := h
  have hlen : (D.1 ++ [l]).length = D.1.length + 1 := by rw [List.length_append]; rfl
  have hw8 : T'.1 0 ≤ 8 := by rw [h0]; unfold rwW; split <;> assumption
  refine ⟨by show T'.1 1 = (D.1 ++ [l]).length; rw [h1, a1, hlen], by show (D.1 ++ [l]).length ≤ 4; rw [hlen]; omega, hw8, fun _ => ?_, fun hg => ?_⟩
  · show T'.1 0 = ((D.1 ++ [l]).headD []).length
    rw [h0, a1]
    cases hD : D.1 with
    | nil => rfl
    | cons x r => rw [hD] at a4; exact (if_neg (by show ¬ r.length + 1 = 0; omega)).trans (a4 (by simp))
  · obtain ⟨g1, g2⟩ := hgd hg
    obtain ⟨s1, s2⟩ := hs g2
    obtain ⟨b1, b2⟩ := a5 g1
    have g3 : l.length = T'.1 0 ∧ okR l = true := by
      rw [h0]
      unfold rwX at g2
      simp at g2
      exact g2
    have hold : ∀ e, e < D.1.length → T'.1 0 = T.1 0 := fun e he => by rw [h0, a1]; unfold rwW; rw [if_neg (by omega)]
    refine ⟨fun e he => ?_, fun a ha hn => ?_⟩
    · have he : e < (D.1 ++ [l]).length := he
      rw [hlen] at he
      show ((D.1 ++ [l]).getD e []).length = _ ∧ okR ((D.1 ++ [l]).getD e []) = true ∧ ∀ a, a < T'.1 0 → T'.2 0 (e * 8 + a) = soL (((D.1 ++ [l]).getD e []).getD a 0)
      by_cases ee : e = D.1.length
      · subst ee
        rw [gB]
        refine ⟨g3.1, g3.2, fun a ha => ?_⟩
        have s9 := s1 a (by omega)
        rw [a1] at s9
        exact s9
      · rw [gA (by omega)]
        obtain ⟨c1, c2, c3⟩ := b1 e (by omega)
        have ho := hold e (by omega)
        rw [ho]
        refine ⟨c1, c2, fun a ha => ?_⟩
        rw [s2 _ (by rw [a1]; omega)]
        exact c3 a ha
    · have hn : ¬ (a % 8 < T'.1 0 ∧ a / 8 < (D.1 ++ [l]).length) := hn
      rw [hlen] at hn
      by_cases hD : D.1.length = 0
      · rw [s2 a (by rw [a1, hD]; omega)]
        exact b2 a ha (by rw [hD]; omega)
      · have ho := hold 0 (by omega)
        rw [ho] at hn g3
        rw [s2 a (by rw [a1]; omega)]
        exact b2 a ha (by omega)
theorem CB.kick {nm : List Nat} {os : List OT} (h : CB T K D) (hr : ¬ D.2.1.length = 4) (hn : ltO nm) (hl : nm.length ≤ 8) (ho : os.length ≤ 6) (h3 : T'.1 3 = T.1 3 + 1) (hk : K'.2.2.2.1 = vp_updL K.2.2.2.1 (T.1 3) (n32 nm)) (h1 : T'.2 1 (T.1 3) = nI os.length) (hR : osR T' (6 * T.1 3) os) (hf1 : ∀ i, ¬ i = T.1 3 → T'.2 1 i = T.2 1 i) (hf2 : ∀ j i, 2 ≤ j → j ≤ 5 → i < 6 * T.1 3 ∨ 6 * T.1 3 + 6 ≤ i → T'.2 j i = T.2 j i) : CB T' K' (D.1, D.2.1 ++ [(nm, os)], D.2.2) := by
  obtain ⟨a1, a2, a3, a4⟩ := h
  have hlen : (D.2.1 ++ [(nm, os)]).length = D.2.1.length + 1 := by rw [List.length_append]; rfl
  refine ⟨by show T'.1 3 = (D.2.1 ++ [(nm, os)]).length; rw [h3, a1, hlen], by show (D.2.1 ++ [(nm, os)]).length ≤ 4; rw [hlen]; omega, by rw [hf2 2 24 (by decide) (by decide) (by omega)]; exact a3, fun j hj => ?_⟩
  have hj : j < (D.2.1 ++ [(nm, os)]).length := hj
  rw [hlen] at hj
  show K'.2.2.2.1 j = n32 ((D.2.1 ++ [(nm, os)]).getD j ([], [])).1 ∧ ltO ((D.2.1 ++ [(nm, os)]).getD j ([], [])).1 ∧ ((D.2.1 ++ [(nm, os)]).getD j ([], [])).1.length ≤ 8 ∧ T'.2 1 j = nI ((D.2.1 ++ [(nm, os)]).getD j ([], [])).2.length ∧ ((D.2.1 ++ [(nm, os)]).getD j ([], [])).2.length ≤ 6 ∧ osR T' (6 * j) ((D.2.1 ++ [(nm, os)]).getD j ([], [])).2
  by_cases ej : j = D.2.1.length
  · subst ej
    rw [gB, hk, a1.symm]
    exact ⟨if_pos rfl, hn, hl, h1, ho, hR⟩
  · rw [gA (by omega), hk]
    obtain ⟨b1, b2, b3, b4, b5, b6⟩ := a4 j (by omega)
    exact ⟨(if_neg (by omega)).trans b1, b2, b3, by rw [hf1 j (by omega)]; exact b4, b5, osR_cg (T := T) _ _ (fun j9 h2 h5 i hi hi2 => hf2 j9 i h2 h5 (by omega)) b6⟩
end D1
section C1
variable {z : Bool} {g : am_H} {T : Sd} {u : Ua} {X : Sd × Ua} {K : Ck} {rf : Nat → Nat}
variable {Y : Tk} {s : Ps} {C : List Int32} {D : Dt} {n : Nat}
theorem c_X4_takeTell {Q : Option Value → am_H → Prop} (hg : STr g) (hY : YV Y) (hz : rf 2 = zq z) (hN : TN Y K n) (hR : RS Y K s) (hf : s.2.1.1 = 0) (hD : CDt T u K C D (s.2.2.1 = 0)) (hC : C.length ≤ s.1) (q : ∀ K' T' u' C', RS Y K' (tl Y D s).2 → KQ7 K K' → ((tl Y D s).2.2.1.1 = 0 → CDt T' u' K' C' (tl Y D s).1 ((tl Y D s).2.2.2.1 = 0) ∧ C'.length ≤ (tl Y D s).2.1 ∧ s.1 + 1 ≤ (tl Y D s).2.1) → Q none (cz z g T' u' X K' rf)) : AC am_P 6 134 45 [.ref 40] (cz z g T u X K rf) Q := by
  refine AC.of (ls := [_]) rfl ?_
  have ht := (hR.2.2.2.2.1 hf).2.1
  have hk := ht.2.2.1
  have hs4 := hR.2.1
  obtain ⟨dA, dB, dW, dR⟩ := hD
  have dR1 := dR.1
  have dR2 := dR.2.1
  have dB1 := dB.1
  have dB2 := dB.2.1
  have fin : ∀ (D1 : Dt) (s1 : Ps) (K1 : Ck) (T1 : Sd) (u1 : Ua) (C1 : List Int32), tl1 Y D s = (D1, s1) → RS Y K1 s1 → KQ7 K K1 → (s1.2.1.1 = 0 → CDt T1 u1 K1 C1 D1 (s1.2.2.1 = 0) ∧ C1.length ≤ s1.1 ∧ s.1 ≤ s1.1) → AW am_P 6 134 45 134 [some (.ref 40)] [] (cz z g T1 u1 X K1 rf) Q := by
    intro D1 s1 K1 T1 u1 C1 e1 hR1 hK1 h1
    have e2 : tl Y D s = (D1, mu Y 4 s1) := by unfold tl; rw [e1]
    rw [e2] at q
    refine aw rfl rfl ?_
    refine aw_c (v := nI 59) rfl (by decide) ?_
    refine aw_cv (d1 := 1) (L1 := 21) rfl rfl zg_40 rfl rfl (by decide) (by decide) (Nat.le_of_ble_eq_true rfl) (c_signE (k := 4) hR1 rfl (by unfold sgK; decide) rfl (fun K2 hR2 hK2 => ?_))
    exact aw_vret rfl rfl (q K2 T1 u1 C1 hR2 (hK1.tr hK2.k7) (fun hg9 => by
        obtain ⟨m1, m2, m3, m4⟩ := mu_1 hg9
        obtain ⟨⟨b1, b2, b3, b4⟩, b5, b6⟩ := h1 m1
        have e5 : (mu Y 4 s1).1 = s1.1 + 1 := by rw [m4]
        have e6 : (mu Y 4 s1).2.2 = s1.2.2 := mu_l
        refine ⟨⟨b1, b2.cg rfl (fun _ _ _ => rfl) (by rw [hK2.2]), b3, b4.cg (fun _ _ => rfl) rfl (fun w => ?_)⟩, ?_, ?_⟩
        · have w : (mu Y 4 s1).2.2.1 = 0 := w
          rw [e6] at w
          exact w
        · show C1.length ≤ (mu Y 4 s1).1
          omega
        · show s.1 + 1 ≤ (mu Y 4 s1).1
          omega))
  have hcs : Y.1 s.1 = 20 ∨ Y.1 s.1 = 21 ∨ Y.1 s.1 = 22 ∨ Y.1 s.1 = 25 ∨ Y.1 s.1 = 26 ∨ Y.1 s.1 = 27 ∨ Y.1 s.1 = 28 ∨ Y.1 s.1 = 29 ∨ Y.1 s.1 = 30 ∨ Y.1 s.1 = 31 ∨ Y.1 s.1 = 32 ∨ Y.1 s.1 < 20 ∨ (20 ≤ Y.1 s.1 ∧ 11 ≤ wdC (Y.1 s.1 - 20)) := by
    unfold kOK sgK at hk
    by_cases h20 : Y.1 s.1 < 20
    · omega
    · by_cases h9 : Y.1 s.1 = 23 ∨ Y.1 s.1 = 24 ∨ 33 ≤ Y.1 s.1
      · have : 11 ≤ wdC (Y.1 s.1 - 20) := by
          unfold wdC
          split
          · omega
          · repeat' split
            all_goals omega
        omega
      · omega
  rcases hcs with h1 | h1 | h1 | h1 | h1 | h1 | h1 | h1 | h1 | h1 | h1 | h1 | h1
  · have h3 : K.1 3 = nI 2 := (tk_wd ht).mpr (by omega)
    have h5 : K.1 5 = nI 0 := by rw [tk_num ht (by omega), h1]; rfl
    have e0 : tl1 Y D s = (if D.1.length = 4 then (D, fl Y 2 s) else ((D.1 ++ [Y.2.2.2 (go Y s).1], D.2), rwS Y D.1.length (D.1.headD []).length s)) := by unfold tl1; rw [if_pos h1]
    refine aw rfl rfl ?_
    refine aw_getfE rfl zg_40 rfl (congrArg Value.int h3) ?_
    refine aw_c (v := nI 2) rfl (by decide) ?_
    refine aw_ine rfl (fun c => absurd (by decide) c) (fun _ => ?_)
    refine aw rfl rfl ?_
    refine aw_getfE rfl zg_40 rfl (congrArg Value.int h5) ?_
    refine aw rfl rfl ?_
    refine aw_ts (z := 0) (tgt := 64) rfl (by decide) (by decide) ?_
    refine aw rfl rfl ?_
    refine aw_cv (d1 := 5) (L1 := 114) rfl rfl zg_40 rfl rfl (by decide) (by decide) (Nat.le_of_ble_eq_true rfl) (c_X4_takeRow hg hz hN hR hf (by omega) (by omega) dR.2.2.1 (fun h4 K1 hR1 hK1 => ?_) (fun h4 K1 T1 hR1 hK1 t1 t2 ok1 => ?_))
    · refine aw rfl rfl ?_
      rw [if_pos (by omega)] at e0
      exact fin _ _ K1 T u C e0 hR1 hK1.k7 (fun w => absurd w (fl_0 (by decide)))
    · refine aw rfl rfl ?_
      rw [if_neg (by omega)] at e0
      have ecg : rwS Y (T.1 1) (T.1 0) s = rwS Y D.1.length (D.1.headD []).length s := by
        rw [dR1]
        refine rwS_cg ?_
        by_cases hd : D.1 = []
        · exact Or.inl (by rw [hd]; rfl)
        · exact Or.inr (dR.2.2.2.1 hd)
      rw [ecg] at hR1 ok1
      refine fin _ _ K1 T1 u C e0 hR1 hK1.k7 (fun hg9 => ?_)
      obtain ⟨o1, o2, o3⟩ := ok1 hg9
      have hmu : (mu Y 1 (go Y s)).2.1.1 = 0 := by
        unfold rwS at hg9
        split at hg9
        · rw [wr_0.1] at hg9; exact hg9
        · exact hg9
      obtain ⟨m1, m2, m3, m4⟩ := mu_1 hmu
      have hi9 : (go Y s).1 ≤ 400 := go_le hs4
      have hl8 := (tk_len (hR.1 (go Y s).1 hi9) m2).2.2
      refine ⟨⟨dA.cg (fun j hj => t1 j (by omega)) (fun j hj => t2 j (by omega)), dB.cg (t1 3 (by decide)) (fun j h9 _ => t2 j h9) (by rw [hK1.2]), dW.cg (t1 7 (by decide)) (t1 8 (by decide)) (t2 8 (by decide)) (t2 9 (by decide)), dR.row (by omega) hl8 o1 o2 (fun w => ?_) o3⟩, Nat.le_trans hC rwS_mo, rwS_mo⟩
      rw [← ecg] at w
      unfold rwS at w
      by_cases hb : rwX (rwW (T.1 1) (T.1 0) (Y.2.2.2 (go Y s).1)) (Y.2.2.2 (go Y s).1) = true
      · rw [if_pos hb] at w
        exact absurd w (wr_l hmu (by decide))
      · rw [if_neg hb] at w
        have w : (mu Y 1 (go Y s)).2.2.1 = 0 := w
        rw [mu_l, go_l] at w
        exact ⟨w, Bool.eq_false_iff.mpr hb⟩
  · have h3 : K.1 3 = nI 2 := (tk_wd ht).mpr (by omega)
    have h5 : K.1 5 = nI 1 := by rw [tk_num ht (by omega), h1]; rfl
    have e1 : tl1 Y D s = ((D.1, D.2.1, va_up D.2.2.1 2 (iV Y 1 (go Y s)), D.2.2.2), iS Y 1 3 (go Y s)) := by unfold tl1; rw [if_neg (by omega), if_neg (by omega), if_neg (by omega), if_neg (by omega), if_neg (by omega), if_pos h1]
    refine aw rfl rfl ?_
    refine aw_getfE rfl zg_40 rfl (congrArg Value.int h3) ?_
    refine aw_c (v := nI 2) rfl (by decide) ?_
    refine aw_ine rfl (fun c => absurd (by decide) c) (fun _ => ?_)
    refine aw rfl rfl ?_
    refine aw_getfE rfl zg_40 rfl (congrArg Value.int h5) ?_
    refine aw rfl rfl ?_
    refine aw_ts (z := 1) (tgt := 130) rfl (by decide) (by decide) ?_
    refine aw rfl rfl ?_
    refine aw_cv (d1 := 2) (L1 := 45) rfl rfl zg_40 rfl rfl (by decide) (by decide) (Nat.le_of_ble_eq_true rfl) (c_set2 hz hR hf h1 (fun K1 x hR1 hK1 hx => ?_))
    refine fin _ _ K1 _ u C e1 hR1 hK1.k7 (fun hg9 => ⟨⟨?_, dB.cg rfl (fun _ _ _ => rfl) (by rw [hK1.2]), dW.cg rfl rfl rfl rfl, dR.cg (fun j hj => vu_ot (by omega)) rfl (fun w => ?_)⟩, Nat.le_trans hC (Nat.le_trans go_mo iS_mo), Nat.le_trans go_mo iS_mo⟩)
    · obtain ⟨a1, a2, a3, a4, a5, a6⟩ := dA
      have hx9 := hx hg9
      exact ⟨hx9, a2, a3, a4, a5, a6⟩
    · have w := iS_m w
      rw [go_l] at w
      exact w
  · have h3 : K.1 3 = nI 2 := (tk_wd ht).mpr (by omega)
    have h5 : K.1 5 = nI 2 := by rw [tk_num ht (by omega), h1]; rfl
    have e0 : tl1 Y D s = (if D.2.1.length = 4 then (D, fl Y 2 s) else ((D.1, D.2.1 ++ [(kkN Y s, kkO Y (kkT Y D s) s)], D.2.2), kkS Y (kkT Y D s) s)) := by unfold tl1; rw [if_neg (by omega), if_pos h1]
    refine aw rfl rfl ?_
    refine aw_getfE rfl zg_40 rfl (congrArg Value.int h3) ?_
    refine aw_c (v := nI 2) rfl (by decide) ?_
    refine aw_ine rfl (fun c => absurd (by decide) c) (fun _ => ?_)
    refine aw rfl rfl ?_
    refine aw_getfE rfl zg_40 rfl (congrArg Value.int h5) ?_
    refine aw rfl rfl ?_
    refine aw_ts (z := 2) (tgt := 71) rfl (by decide) (by decide) ?_
    refine aw rfl rfl ?_
    refine aw_cv (d1 := 4) (L1 := 95) rfl rfl zg_40 rfl rfl (by decide) (by decide) (Nat.le_of_ble_eq_true rfl) (c_X4_takeKick hY hz hN hR hf (by omega) (by omega) (fun h4 K1 hR1 hK1 => ?_) (fun h4 tw K1 T1 htw hR1 hK1 t1 t2 ok1 => ?_))
    · refine aw rfl rfl ?_
      rw [if_pos (by omega)] at e0
      exact fin _ _ K1 T u C e0 hR1 hK1.k7 (fun w => absurd w (fl_0 (by decide)))
    · refine aw rfl rfl ?_
      rw [if_neg (by omega)] at e0
      have hi9 : (go Y s).1 ≤ 400 := go_le hs4
      by_cases hmu : (mu Y 1 (go Y s)).2.1.1 = 0
      · obtain ⟨m1, m2, m3, m4⟩ := mu_1 hmu
        have hl8 := (tk_len (hR.1 (go Y s).1 hi9) m2).2.2
        have hlt := (hN.2.2 (go Y s).1 hi9 m2).2.1
        have etw : tw = kkT Y D s := by
          rcases htw with w | w | ⟨w, j, j1, j2⟩ | ⟨w, w2⟩
          · exact absurd m1 w
          · exact absurd m2 w
          · rw [w]
            refine (List.any_eq_true.mpr ⟨D.2.1.getD j ([], []), ?_, ?_⟩).symm
            · rw [List.getD_eq_getElem?_getD, List.getElem?_eq_getElem (by omega)]; exact List.getElem_mem _
            · obtain ⟨b1, b2, b3, _⟩ := dB.2.2.2 j (by omega)
              rw [b1] at j2
              rw [beq_iff_eq]
              exact (n32_inj b2 hlt b3 hl8).mp j2
          · rw [w]
            refine (List.any_eq_false.mpr (fun x hx => ?_)).symm
            obtain ⟨j, hj, ej⟩ := List.getElem_of_mem hx
            have w3 := w2 j (by omega)
            obtain ⟨b1, b2, b3, _⟩ := dB.2.2.2 j hj
            have ej2 : D.2.1.getD j ([], []) = x := by rw [List.getD_eq_getElem?_getD, List.getElem?_eq_getElem hj]; exact ej
            rw [ej2] at b1 b2 b3
            rw [b1] at w3
            intro e
            rw [beq_iff_eq] at e
            exact w3 (by rw [e])
        subst etw
        refine fin _ _ K1 T1 u C e0 hR1 hK1.k7 (fun hg9 => ?_)
        obtain ⟨o1, o2, o3, o4, o5, o6⟩ := ok1 hg9
        refine ⟨⟨dA.cg (fun j hj => t1 j (by omega)) (fun j hj => t2 j (by omega)), dB.kick (by omega) hlt hl8 (ots_len 6 _) o1 o2 o3 o4 o5 o6, dW.cg (t1 7 (by decide)) (t1 8 (by decide)) (t2 8 (by decide)) (t2 9 (by decide)), dR.cg (fun j hj => t1 j (by omega)) (t2 0 (by decide)) (fun w => ?_)⟩, Nat.le_trans hC kkS_mo, kkS_mo⟩
        have w1 : (ots Y 6 (kk1 Y (kkT Y D s) s)).2.2.2.1 = 0 := by
          unfold kkS at w
          split at w
          · exact w
          · exact wr_m (by decide) w
        have w2 := ots_m _ _ w1
        unfold kk1 at w2
        cases hk9 : kkT Y D s with
        | true => rw [hk9] at w2; have w2 := wr_m (by decide) w2; rw [mu_l, go_l] at w2; exact w2
        | false => rw [hk9] at w2; have w2 : (mu Y 1 (go Y s)).2.2.1 = 0 := w2; rw [mu_l, go_l] at w2; exact w2
      · rw [kkS_f hmu] at hR1 e0
        exact fin _ _ K1 T1 u C e0 hR1 hK1.k7 (fun w => absurd w hmu)
  · have h3 : K.1 3 = nI 2 := (tk_wd ht).mpr (by omega)
    have h5 : K.1 5 = nI 3 := by rw [tk_num ht (by omega), h1]; rfl
    have e1 : tl1 Y D s = ((D.1, D.2.1, D.2.2.1, D.2.2.2.1, D.2.2.2.2.1, va_up D.2.2.2.2.2 0 (lwA Y s).1), (lwA Y s).2) := by unfold tl1; rw [if_neg (by omega), if_neg (by omega), if_pos (by omega), h1]
    have hLA := dW.1
    refine aw rfl rfl ?_
    refine aw_getfE rfl zg_40 rfl (congrArg Value.int h3) ?_
    refine aw_c (v := nI 2) rfl (by decide) ?_
    refine aw_ine rfl (fun c => absurd (by decide) c) (fun _ => ?_)
    refine aw rfl rfl ?_
    refine aw_getfE rfl zg_40 rfl (congrArg Value.int h5) ?_
    refine aw rfl rfl ?_
    refine aw_ts (z := 3) (tgt := 78) rfl (by decide) (by decide) ?_
    refine aw rfl rfl ?_
    refine aw_c (v := nI 0) rfl (by decide) ?_
    refine aw_cv (d1 := 4) (L1 := 89) rfl rfl zg_40 rfl rfl (by decide) (by decide) (Nat.le_of_ble_eq_true rfl) (c_X4_takeLaw hz (by decide) hY.1 hR dW.2.1 hLA hC (fun K1 T1 u1 C1 l1 hR1 hK1 hL1 t1 h81 ok1 => ?_))
    refine aw rfl rfl ?_
    refine fin _ _ K1 T1 u1 C1 e1 hR1 hK1.k7 (fun hg9 => ?_)
    obtain ⟨o1, o2, o3, o4⟩ := ok1 hg9
    have hmo : s.1 ≤ (lwA Y s).2.1 := by
      have h9 := hg9
      unfold lwA at h9 ⊢
      have hm9 : (mu Y 5 (go Y s)).2.1.1 = 0 := Decidable.of_not_not (fun w => by rw [lwL_f w] at h9; exact w h9)
      exact Nat.le_trans go_mo (Nat.le_trans mu_mo (lwL_mo _ _))
    refine ⟨⟨dA.cg (fun j hj => t1.1 j (by omega) (by omega)) (fun j hj => t1.2 j (by omega) (by omega)), dB.cg (t1.1 3 (by decide) (by decide)) (fun j _ h9 => t1.2 j (by omega) (by omega)) (by rw [hK1.2]), dW.law (by decide) (lwA_ok hY.1 hs4 hg9) hL1 o1 o3 o4, dR.cg (fun j hj => t1.1 j (by omega) (by omega)) (t1.2 0 (by decide) (by decide)) (fun w => by rw [lwA_l] at w; exact w)⟩, o2, hmo⟩
  · have h3 : K.1 3 = nI 2 := (tk_wd ht).mpr (by omega)
    have h5 : K.1 5 = nI 4 := by rw [tk_num ht (by omega), h1]; rfl
    have e1 : tl1 Y D s = ((D.1, D.2.1, D.2.2.1, D.2.2.2.1, D.2.2.2.2.1, va_up D.2.2.2.2.2 1 (lwA Y s).1), (lwA Y s).2) := by unfold tl1; rw [if_neg (by omega), if_neg (by omega), if_pos (by omega), h1]
    have hLA := dW.1
    refine aw rfl rfl ?_
    refine aw_getfE rfl zg_40 rfl (congrArg Value.int h3) ?_
    refine aw_c (v := nI 2) rfl (by decide) ?_
    refine aw_ine rfl (fun c => absurd (by decide) c) (fun _ => ?_)
    refine aw rfl rfl ?_
    refine aw_getfE rfl zg_40 rfl (congrArg Value.int h5) ?_
    refine aw rfl rfl ?_
    refine aw_ts (z := 4) (tgt := 86) rfl (by decide) (by decide) ?_
    refine aw rfl rfl ?_
    refine aw_c (v := nI 1) rfl (by decide) ?_
    refine aw_cv (d1 := 4) (L1 := 89) rfl rfl zg_40 rfl rfl (by decide) (by decide) (Nat.le_of_ble_eq_true rfl) (c_X4_takeLaw hz (by decide) hY.1 hR dW.2.1 hLA hC (fun K1 T1 u1 C1 l1 hR1 hK1 hL1 t1 h81 ok1 => ?_))
    refine aw rfl rfl ?_
    refine fin _ _ K1 T1 u1 C1 e1 hR1 hK1.k7 (fun hg9 => ?_)
    obtain ⟨o1, o2, o3, o4⟩ := ok1 hg9
    have hmo : s.1 ≤ (lwA Y s).2.1 := by
      have h9 := hg9
      unfold lwA at h9 ⊢
      have hm9 : (mu Y 5 (go Y s)).2.1.1 = 0 := Decidable.of_not_not (fun w => by rw [lwL_f w] at h9; exact w h9)
      exact Nat.le_trans go_mo (Nat.le_trans mu_mo (lwL_mo _ _))
    refine ⟨⟨dA.cg (fun j hj => t1.1 j (by omega) (by omega)) (fun j hj => t1.2 j (by omega) (by omega)), dB.cg (t1.1 3 (by decide) (by decide)) (fun j _ h9 => t1.2 j (by omega) (by omega)) (by rw [hK1.2]), dW.law (by decide) (lwA_ok hY.1 hs4 hg9) hL1 o1 o3 o4, dR.cg (fun j hj => t1.1 j (by omega) (by omega)) (t1.2 0 (by decide) (by decide)) (fun w => by rw [lwA_l] at w; exact w)⟩, o2, hmo⟩
  · have h3 : K.1 3 = nI 2 := (tk_wd ht).mpr (by omega)
    have h5 : K.1 5 = nI 5 := by rw [tk_num ht (by omega), h1]; rfl
    have e1 : tl1 Y D s = ((D.1, D.2.1, D.2.2.1, D.2.2.2.1, D.2.2.2.2.1, va_up D.2.2.2.2.2 2 (lwA Y s).1), (lwA Y s).2) := by unfold tl1; rw [if_neg (by omega), if_neg (by omega), if_pos (by omega), h1]
    have hLA := dW.1
    refine aw rfl rfl ?_
    refine aw_getfE rfl zg_40 rfl (congrArg Value.int h3) ?_
    refine aw_c (v := nI 2) rfl (by decide) ?_
    refine aw_ine rfl (fun c => absurd (by decide) c) (fun _ => ?_)
    refine aw rfl rfl ?_
    refine aw_getfE rfl zg_40 rfl (congrArg Value.int h5) ?_
    refine aw rfl rfl ?_
    refine aw_ts (z := 5) (tgt := 94) rfl (by decide) (by decide) ?_
    refine aw rfl rfl ?_
    refine aw_c (v := nI 2) rfl (by decide) ?_
    refine aw_cv (d1 := 4) (L1 := 89) rfl rfl zg_40 rfl rfl (by decide) (by decide) (Nat.le_of_ble_eq_true rfl) (c_X4_takeLaw hz (by decide) hY.1 hR dW.2.1 hLA hC (fun K1 T1 u1 C1 l1 hR1 hK1 hL1 t1 h81 ok1 => ?_))
    refine aw rfl rfl ?_
    refine fin _ _ K1 T1 u1 C1 e1 hR1 hK1.k7 (fun hg9 => ?_)
    obtain ⟨o1, o2, o3, o4⟩ := ok1 hg9
    have hmo : s.1 ≤ (lwA Y s).2.1 := by
      have h9 := hg9
      unfold lwA at h9 ⊢
      have hm9 : (mu Y 5 (go Y s)).2.1.1 = 0 := Decidable.of_not_not (fun w => by rw [lwL_f w] at h9; exact w h9)
      exact Nat.le_trans go_mo (Nat.le_trans mu_mo (lwL_mo _ _))
    refine ⟨⟨dA.cg (fun j hj => t1.1 j (by omega) (by omega)) (fun j hj => t1.2 j (by omega) (by omega)), dB.cg (t1.1 3 (by decide) (by decide)) (fun j _ h9 => t1.2 j (by omega) (by omega)) (by rw [hK1.2]), dW.law (by decide) (lwA_ok hY.1 hs4 hg9) hL1 o1 o3 o4, dR.cg (fun j hj => t1.1 j (by omega) (by omega)) (t1.2 0 (by decide) (by decide)) (fun w => by rw [lwA_l] at w; exact w)⟩, o2, hmo⟩
  · have h3 : K.1 3 = nI 2 := (tk_wd ht).mpr (by omega)
    have h5 : K.1 5 = nI 6 := by rw [tk_num ht (by omega), h1]; rfl
    have e1 : tl1 Y D s = ((D.1, D.2.1, D.2.2.1, spV Y s, D.2.2.2.2), spS Y s) := by unfold tl1; rw [if_neg (by omega), if_neg (by omega), if_neg (by omega), if_pos h1]
    refine aw rfl rfl ?_
    refine aw_getfE rfl zg_40 rfl (congrArg Value.int h3) ?_
    refine aw_c (v := nI 2) rfl (by decide) ?_
    refine aw_ine rfl (fun c => absurd (by decide) c) (fun _ => ?_)
    refine aw rfl rfl ?_
    refine aw_getfE rfl zg_40 rfl (congrArg Value.int h5) ?_
    refine aw rfl rfl ?_
    refine aw_ts (z := 6) (tgt := 102) rfl (by decide) (by decide) ?_
    refine aw rfl rfl ?_
    refine aw rfl rfl ?_
    refine aw_getfE rfl zg_40 rfl (congrArg Value.ref hz) ?_
    refine aw_getf rfl zs_0 rfl ?_
    refine aw_cv (d1 := 2) (L1 := 45) rfl rfl zg_40 rfl rfl (by decide) (by decide) (Nat.le_of_ble_eq_true rfl) (c_takeSpot6 hR (fun K1 f hR1 hK1 ok1 => ?_))
    refine aw rfl rfl ?_
    refine fin _ _ K1 _ u C e1 hR1 hK1.k7 (fun hg9 => ⟨⟨?_, dB.cg rfl (fun j h9 h8 => vu_ot (by omega)) (by rw [hK1.2]), dW.cg rfl rfl rfl rfl, dR.cg (fun j hj => rfl) rfl (fun w => ?_)⟩, Nat.le_trans hC spS_mo, spS_mo⟩)
    · obtain ⟨a1, a2, a3, a4, a5, a6⟩ := dA
      exact ⟨a1, a2, a3, a4, ok1 hg9, a6⟩
    · have w := iS_m (iS_m (iS_m w))
      rw [go_l] at w
      exact w
  · have h3 : K.1 3 = nI 2 := (tk_wd ht).mpr (by omega)
    have h5 : K.1 5 = nI 7 := by rw [tk_num ht (by omega), h1]; rfl
    have e1 : tl1 Y D s = ((D.1, D.2.1, D.2.2.1, D.2.2.2.1, spV Y s, D.2.2.2.2.2), spS Y s) := by unfold tl1; rw [if_neg (by omega), if_neg (by omega), if_neg (by omega), if_neg (by omega), if_pos h1]
    refine aw rfl rfl ?_
    refine aw_getfE rfl zg_40 rfl (congrArg Value.int h3) ?_
    refine aw_c (v := nI 2) rfl (by decide) ?_
    refine aw_ine rfl (fun c => absurd (by decide) c) (fun _ => ?_)
    refine aw rfl rfl ?_
    refine aw_getfE rfl zg_40 rfl (congrArg Value.int h5) ?_
    refine aw rfl rfl ?_
    refine aw_ts (z := 7) (tgt := 116) rfl (by decide) (by decide) ?_
    refine aw rfl rfl ?_
    refine aw rfl rfl ?_
    refine aw_getfE rfl zg_40 rfl (congrArg Value.ref hz) ?_
    refine aw_getf rfl zs_0 rfl ?_
    refine aw_cv (d1 := 2) (L1 := 45) rfl rfl zg_40 rfl rfl (by decide) (by decide) (Nat.le_of_ble_eq_true rfl) (c_takeSpot7 hR (fun K1 f hR1 hK1 ok1 => ?_))
    refine aw rfl rfl ?_
    refine fin _ _ K1 _ u C e1 hR1 hK1.k7 (fun hg9 => ⟨⟨?_, dB.cg rfl (fun j h9 h8 => vu_ot (by omega)) (by rw [hK1.2]), dW.cg rfl rfl rfl rfl, dR.cg (fun j hj => rfl) rfl (fun w => ?_)⟩, Nat.le_trans hC spS_mo, spS_mo⟩)
    · obtain ⟨a1, a2, a3, a4, a5, a6⟩ := dA
      exact ⟨a1, a2, a3, a4, a5, ok1 hg9⟩
    · have w := iS_m (iS_m (iS_m w))
      rw [go_l] at w
      exact w
  · have h3 : K.1 3 = nI 2 := (tk_wd ht).mpr (by omega)
    have h5 : K.1 5 = nI 8 := by rw [tk_num ht (by omega), h1]; rfl
    have e1 : tl1 Y D s = ((D.1, D.2.1, va_up D.2.2.1 4 (iV Y 0 (go Y s)), D.2.2.2), iS Y 0 2 (go Y s)) := by unfold tl1; rw [if_neg (by omega), if_neg (by omega), if_neg (by omega), if_neg (by omega), if_neg (by omega), if_neg (by omega), if_pos h1]
    refine aw rfl rfl ?_
    refine aw_getfE rfl zg_40 rfl (congrArg Value.int h3) ?_
    refine aw_c (v := nI 2) rfl (by decide) ?_
    refine aw_ine rfl (fun c => absurd (by decide) c) (fun _ => ?_)
    refine aw rfl rfl ?_
    refine aw_getfE rfl zg_40 rfl (congrArg Value.int h5) ?_
    refine aw rfl rfl ?_
    refine aw_ts (z := 8) (tgt := 130) rfl (by decide) (by decide) ?_
    refine aw rfl rfl ?_
    refine aw_cv (d1 := 2) (L1 := 45) rfl rfl zg_40 rfl rfl (by decide) (by decide) (Nat.le_of_ble_eq_true rfl) (c_set4 hz hR hf h1 (fun K1 x hR1 hK1 hx => ?_))
    refine fin _ _ K1 _ u C e1 hR1 hK1.k7 (fun hg9 => ⟨⟨?_, dB.cg rfl (fun _ _ _ => rfl) (by rw [hK1.2]), dW.cg rfl rfl rfl rfl, dR.cg (fun j hj => vu_ot (by omega)) rfl (fun w => ?_)⟩, Nat.le_trans hC (Nat.le_trans go_mo iS_mo), Nat.le_trans go_mo iS_mo⟩)
    · obtain ⟨a1, a2, a3, a4, a5, a6⟩ := dA
      have hx9 := hx hg9
      exact ⟨a1, hx9, a3, a4, a5, a6⟩
    · have w := iS_m w
      rw [go_l] at w
      exact w
  · have h3 : K.1 3 = nI 2 := (tk_wd ht).mpr (by omega)
    have h5 : K.1 5 = nI 9 := by rw [tk_num ht (by omega), h1]; rfl
    have e1 : tl1 Y D s = ((D.1, D.2.1, va_up D.2.2.1 5 (iV Y 1 (go Y s)), D.2.2.2), iS Y 1 99 (go Y s)) := by unfold tl1; rw [if_neg (by omega), if_neg (by omega), if_neg (by omega), if_neg (by omega), if_neg (by omega), if_neg (by omega), if_neg (by omega), if_pos h1]
    refine aw rfl rfl ?_
    refine aw_getfE rfl zg_40 rfl (congrArg Value.int h3) ?_
    refine aw_c (v := nI 2) rfl (by decide) ?_
    refine aw_ine rfl (fun c => absurd (by decide) c) (fun _ => ?_)
    refine aw rfl rfl ?_
    refine aw_getfE rfl zg_40 rfl (congrArg Value.int h5) ?_
    refine aw rfl rfl ?_
    refine aw_ts (z := 9) (tgt := 130) rfl (by decide) (by decide) ?_
    refine aw rfl rfl ?_
    refine aw_cv (d1 := 2) (L1 := 45) rfl rfl zg_40 rfl rfl (by decide) (by decide) (Nat.le_of_ble_eq_true rfl) (c_set5 hz hR hf h1 (fun K1 x hR1 hK1 hx => ?_))
    refine fin _ _ K1 _ u C e1 hR1 hK1.k7 (fun hg9 => ⟨⟨?_, dB.cg rfl (fun _ _ _ => rfl) (by rw [hK1.2]), dW.cg rfl rfl rfl rfl, dR.cg (fun j hj => vu_ot (by omega)) rfl (fun w => ?_)⟩, Nat.le_trans hC (Nat.le_trans go_mo iS_mo), Nat.le_trans go_mo iS_mo⟩)
    · obtain ⟨a1, a2, a3, a4, a5, a6⟩ := dA
      have hx9 := hx hg9
      exact ⟨a1, a2, hx9, a4, a5, a6⟩
    · have w := iS_m w
      rw [go_l] at w
      exact w
  · have h3 : K.1 3 = nI 2 := (tk_wd ht).mpr (by omega)
    have h5 : K.1 5 = nI 10 := by rw [tk_num ht (by omega), h1]; rfl
    have e1 : tl1 Y D s = ((D.1, D.2.1, va_up D.2.2.1 6 (iV Y 0 (go Y s)), D.2.2.2), iS Y 0 9999 (go Y s)) := by unfold tl1; rw [if_neg (by omega), if_neg (by omega), if_neg (by omega), if_neg (by omega), if_neg (by omega), if_neg (by omega), if_neg (by omega), if_neg (by omega), if_pos h1]
    refine aw rfl rfl ?_
    refine aw_getfE rfl zg_40 rfl (congrArg Value.int h3) ?_
    refine aw_c (v := nI 2) rfl (by decide) ?_
    refine aw_ine rfl (fun c => absurd (by decide) c) (fun _ => ?_)
    refine aw rfl rfl ?_
    refine aw_getfE rfl zg_40 rfl (congrArg Value.int h5) ?_
    refine aw rfl rfl ?_
    refine aw_ts (z := 10) (tgt := 130) rfl (by decide) (by decide) ?_
    refine aw rfl rfl ?_
    refine aw_cv (d1 := 2) (L1 := 45) rfl rfl zg_40 rfl rfl (by decide) (by decide) (Nat.le_of_ble_eq_true rfl) (c_set6 hz hR hf h1 (fun K1 x hR1 hK1 hx => ?_))
    refine fin _ _ K1 _ u C e1 hR1 hK1.k7 (fun hg9 => ⟨⟨?_, dB.cg rfl (fun _ _ _ => rfl) (by rw [hK1.2]), dW.cg rfl rfl rfl rfl, dR.cg (fun j hj => vu_ot (by omega)) rfl (fun w => ?_)⟩, Nat.le_trans hC (Nat.le_trans go_mo iS_mo), Nat.le_trans go_mo iS_mo⟩)
    · obtain ⟨a1, a2, a3, a4, a5, a6⟩ := dA
      have hx9 := hx hg9
      exact ⟨a1, a2, a3, hx9, a5, a6⟩
    · have w := iS_m w
      rw [go_l] at w
      exact w
  · have e1 : tl1 Y D s = (D, fl Y 1 s) := by unfold tl1; rw [if_neg (by omega), if_neg (by omega), if_neg (by omega), if_neg (by omega), if_neg (by omega), if_neg (by omega), if_neg (by omega), if_neg (by omega), if_neg (by omega)]
    refine aw rfl rfl ?_
    refine aw_getf rfl zg_40 rfl ?_
    refine aw_c (v := nI 2) rfl (by decide) ?_
    refine aw_ine rfl (fun c5 => ?_) (fun c5 => absurd ((tk_wd ht).mp c5) (by omega))
    refine aw_c (v := -1) rfl (by decide) ?_
    refine aw_ts (z := -1) (tgt := 130) rfl (by decide) (by decide) ?_
    refine aw rfl rfl ?_
    refine aw_cv (d1 := 2) (L1 := 45) rfl rfl zg_40 rfl rfl (by decide) (by decide) (Nat.le_of_ble_eq_true rfl) (c_setN hR hf h1 (fun K1 hR1 hK1 => ?_))
    exact fin _ _ K1 T u C e1 hR1 hK1.k7 (fun w => absurd w (fl_0 (by decide)))
  · obtain ⟨h20, h11⟩ := h1
    have hnot : ∀ k, 20 ≤ k → k ≤ 42 → wdC (k - 20) < 11 → ¬ Y.1 s.1 = k := fun k _ _ h9 e => by rw [e] at h11; omega
    have e1 : tl1 Y D s = (D, fl Y 1 s) := by
      unfold tl1
      rw [if_neg (hnot 20 (by decide) (by decide) (by decide)), if_neg (hnot 22 (by decide) (by decide) (by decide)), if_neg (fun w => by have h25 := hnot 25 (by decide) (by decide) (by decide); have h26 := hnot 26 (by decide) (by decide) (by decide); have h27 := hnot 27 (by decide) (by decide) (by decide); omega), if_neg (hnot 28 (by decide) (by decide) (by decide)), if_neg (hnot 29 (by decide) (by decide) (by decide)), if_neg (hnot 21 (by decide) (by decide) (by decide)), if_neg (hnot 30 (by decide) (by decide) (by decide)), if_neg (hnot 31 (by decide) (by decide) (by decide)), if_neg (hnot 32 (by decide) (by decide) (by decide))]
    have h3 : K.1 3 = nI 2 := (tk_wd ht).mpr h20
    have h5 := tk_num ht h20
    have hwl := wdC_lt (Y.1 s.1 - 20) (by unfold kOK sgK at hk; omega)
    refine aw rfl rfl ?_
    refine aw_getfE rfl zg_40 rfl (congrArg Value.int h3) ?_
    refine aw_c (v := nI 2) rfl (by decide) ?_
    refine aw_ine rfl (fun c => absurd (by decide) c) (fun _ => ?_)
    refine aw rfl rfl ?_
    refine aw_getfE rfl zg_40 rfl (congrArg Value.int h5) ?_
    refine aw rfl rfl ?_
    refine aw_ts (tgt := 130) rfl rfl (am_tg_out (Or.inr (by rw [nI_toInt (by omega)]; omega))) ?_
    refine aw rfl rfl ?_
    refine aw_cv (d1 := 2) (L1 := 45) rfl rfl zg_40 rfl rfl (by decide) (by decide) (Nat.le_of_ble_eq_true rfl) (c_setW hR hf h20 h11 (fun K1 hR1 hK1 => ?_))
    exact fin _ _ K1 T u C e1 hR1 hK1.k7 (fun w => absurd w (fl_0 (by decide)))
end C1
