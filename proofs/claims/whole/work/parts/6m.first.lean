/-! ===== the class: the race (6): first ===== -/
def KRr (K K' : Ck) : Prop := K'.1 = K.1 ∧ (∀ j, j ≠ 102 → j < 109 ∨ 112 < j → K'.2.1 j = K.2.1 j) ∧ K'.2.2.1 = K.2.2.1 ∧ K'.2.2.2.1 = K.2.2.2.1
theorem KRr.rf {K : Ck} : KRr K K := ⟨rfl, fun _ _ _ => rfl, rfl, rfl⟩
theorem KRr.tr {K K1 K2 : Ck} (h : KRr K K1) (h1 : KRr K1 K2) : KRr K K2 := ⟨h1.1.trans h.1, fun j hj hq => (h1.2.1 j hj hq).trans (h.2.1 j hj hq), h1.2.2.1.trans h.2.2.1, h1.2.2.2.trans h.2.2.2⟩
theorem KRq.rr {q : Nat} {K K1 : Ck} (h : KRq q K K1) (hq : raP q) : KRr K K1 := ⟨h.1, fun j hj hz => h.2.1 j hj (by rcases hq with e | e <;> omega), h.2.2.1, h.2.2.2⟩
theorem KT.rr {K K1 : Ck} (h : KT K K1) : KRr K K1 := ⟨h.1, fun j hj _ => h.2.1 j hj, h.2.2.1, h.2.2.2⟩
theorem KRr.up {K : Ck} {y : Nat → Nat → Int32} (h : ∀ j, j ≠ 109 → j ≠ 110 → y j = K.2.1 j) : KRr K (K.1, y, K.2.2) := ⟨rfl, fun j _ hz => h j (by omega) (by omega), rfl, rfl⟩
theorem TB.a2 {T : Sd} {LW : LWt} {g : am_H} {K : Ck} {y : Nat → Nat → Int32} (h : TB T LW g K) (e : y 102 = K.2.1 102) : TB T LW g (K.1, y, K.2.2) := by
  unfold TB at h ⊢
  dsimp only
  rw [e]
  exact h
section C1
variable {g : am_H} {T0 T1 T : Sd} {u0 u1 : Ua} {K : Ck} {rf : Nat → Nat} {p : Nat} {LW : LWt} {S : Nat → Nat} {u td nt cc : Nat} {P Z : Nat → Nat → Nat} {s1 s2 : Nat → Nat} {TD : Nat → Nat} {hd : Nat → Bool} {tp : Nat → Int32} {pc : Int32}
variable {no na : Nat} {lf : Nat → Nat}
theorem l_turns {Q : Option Value → am_H → Prop} {st k mine his : Nat} (hst : st ≤ 1500) (hk : k ≤ 2) (hmo : opn T mine) (hho9 : opn T his) (hG : GS T) (h1 : s1 mine = 0) (h2 : s2 his = 0) (c1 : (∀ j, j < k → ∀ l, lieOK T l → hm T l = false → s1 l ≤ j → ∀ a, a ≤ T.1 3 → CLa T LW s1 l a (j + 1) (nI ((st + 2 * j) * T.1 5)))) (c2 : (∀ j, j < k → ∀ l, lieOK T l → hm T l = false → s2 l ≤ j → ∀ a, a ≤ T.1 3 → CLa T LW s2 l a (j + 1) (nI ((st + 1 + 2 * j) * T.1 5)))) : ∀ m left g u0 u1 K rf l6, left + m = 2 * k + 1 → CX p T LW T0 T1 g rf → LLr T K no na lf → TB T LW g K → AR (K.2.1 111) s1 → AR (K.2.1 112) s2 → (left ≠ 0 → ∀ a b, opn T a → s1 a ≤ (2 * k + 1 - left + 1) / 2 → (b = 96 ∨ (opn T b ∧ s2 b ≤ (2 * k + 1 - left) / 2)) → K.2.1 109 (a * 97 + b) = nI (PF T LW (2 * k + 1) (st * T.1 5) left a b)) → (∀ g' u0 u1 K' rf', GX g g' K.2.2.2.2 K'.2.2.2.2 → CX p T LW T0 T1 g' rf' → TB T LW g' K' → KRr K K' → (∀ i, i < 8 → rf' i = rf i) → Q (some (.int (nI (PF T LW (2 * k + 1) (st * T.1 5) (2 * k + 1) mine his)))) (ch g' T0 u0 T1 u1 K' rf')) → AW am_P 6 157 34 68 [some (.ref 108), some (.int (nI st)), some (.int (nI (2 * k + 1))), some (.int (nI mine)), some (.int (nI his)), some (.int (nI left)), l6] [] (ch g T0 u0 T1 u1 K rf) Q := by
  have hG0 := hG
  obtain ⟨⟨g0, g0x⟩, ⟨g1, g1x⟩, ⟨g2, g2x⟩, ⟨g3, g3x⟩, g4, ⟨g5, g5x⟩, g6, gsq, goc, gwt, gsp, gfr⟩ := hG
  have hm96 := hmo.1.1
  have hh96 := hho9.1.1
  intro m
  induction m with
  | zero =>
    intro left g u0 u1 K rf l6 hl hX hL hT hs1 hs2 hod q
    have e : left = 2 * k + 1 := by omega
    subst e
    have hv := hod (by omega) mine his hmo (by omega) (Or.inr ⟨hho9, by omega⟩)
    refine aw rfl rfl ?_
    refine aw rfl rfl ?_
    refine aw_igen rfl (fun c71 => ?_) (fun c71 => by omega)
    refine aw rfl rfl ?_
    refine aw_getf rfl cg_108 rfl ?_
    refine aw rfl rfl ?_
    refine aw_c (v := nI 97) rfl (by decide) ?_
    refine aw_muln rfl ?_
    refine aw rfl rfl ?_
    refine aw_addn rfl ?_
    refine aw_ialdE rfl cg_109 rfl (by omega) (by decide) hv ?_
    exact aw_iret rfl rfl (q g u0 u1 K rf GX.rf hX hT KRr.rf (fun _ _ => rfl))
  | succ m ih =>
    intro left g u0 u1 K rf l6 hl hX hL hT hs1 hs2 hod q
    have hX0 := hX
    obtain ⟨hp, _, hW, hU, h8t, hr0, hr3, hr4, hr5, hsix, hf6, hf7, hf67⟩ := hX
    have hB : ∀ a b, PF T LW (2 * k + 1) (st * T.1 5) left a b ≤ 100000000 := fun a b => Nat.le_of_lt (Nat.lt_of_le_of_lt (PF_le hG0 left a b) (p6_le (by omega)))
    refine aw rfl rfl ?_
    refine aw rfl rfl ?_
    refine aw_igen rfl (fun c71 => by omega) (fun c71 => ?_)
    refine aw rfl rfl ?_
    refine aw_c (v := nI 1) rfl (by decide) ?_
    refine aw_subn rfl (by omega) ?_
    refine aw rfl rfl ?_
    refine aw_subn rfl (by omega) ?_
    refine aw_ist (ls' := [_, _, _, _, _, _, _]) rfl rfl ?_
    refine aw rfl rfl ?_
    refine aw_getf rfl cg_108 rfl ?_
    refine aw rfl rfl ?_
    refine aw rfl rfl ?_
    refine aw_addn rfl ?_
    refine aw_cv (d1 := 4) (L1 := 100) rfl rfl cg_100 rfl rfl (by decide) (by decide) (Nat.le_of_ble_eq_true rfl) (c_X8_turnTo (T := T) (LW := LW) (p := p) hp hr3 hG0 hW hU h8t hL hT (w := st + (2 * k + 1 - 1 - left)) (by omega) (fun g3 v0 v1 K3 q8 f8 t1 t2 t3 t4 t5 t6 => ?_))
    have hX3 : CX p T LW T0 T1 g3 (va_up rf 8 q8) := (hX0.to t1 (fun _ _ => rfl)).sw
    have hR3 : RG T LW g3 (va_up rf 8 q8) (nI ((st + (2 * k + 1 - 1 - left)) * T.1 5)) := ⟨t4, f8, t5, t6⟩
    have hL3 := hL.kt t2
    have hs13 : AR (K3.2.1 111) s1 := by rw [t2.2.1 _ (by decide)]; exact hs1
    have hs23 : AR (K3.2.1 112) s2 := by rw [t2.2.1 _ (by decide)]; exact hs2
    have hod3 : (left ≠ 0 → ∀ a b, opn T a → s1 a ≤ (2 * k + 1 - left + 1) / 2 → (b = 96 ∨ (opn T b ∧ s2 b ≤ (2 * k + 1 - left) / 2)) → K3.2.1 109 (a * 97 + b) = nI (PF T LW (2 * k + 1) (st * T.1 5) left a b)) := by rw [t2.2.1 _ (by decide)]; exact hod
    refine aw rfl rfl ?_
    refine aw_c (v := nI 2) rfl (by decide) ?_
    refine aw_remn rfl (by omega) (by omega) (by omega) ?_
    refine aw_nen rfl (fun c97 => ?_) (fun c97 => ?_)
    · refine aw rfl rfl ?_
      refine aw rfl rfl ?_
      refine aw_c (v := nI 2) rfl (by decide) ?_
      refine aw_divn rfl (by omega) (by omega) (by omega) ?_
      refine aw_cv (d1 := 4) (L1 := 94) rfl rfl cg_108 rfl rfl (by decide) (by decide) (Nat.le_of_ble_eq_true rfl) (c_X3_takeHisTurn (P := PF T LW (2 * k + 1) (st * T.1 5) left) (s1 := s1) (s2 := s2) (r := (2 * k + 1 - 1 - left) / 2) hX3 hL3 hR3 hs23 hB (by have h := c2 ((2 * k + 1 - 1 - left) / 2) (by omega); rw [show st + 1 + 2 * ((2 * k + 1 - 1 - left) / 2) = st + (2 * k + 1 - 1 - left) by omega] at h; exact h) (by omega) hs13 (fun c m h1 h2 h3 h4 => PF_b h1 h2 h3 h4) (fun c b h1 h2 h3 => hod3 (by omega) c b h1 (by omega) (h3.imp id (fun z => ⟨z.1, by have := z.2; omega⟩))) (fun y d1 d2 d3 => ?_))
      refine aw_incn (c := 1) (ls' := [_, _, _, _, _, _, _]) rfl rfl (by decide) rfl ?_
      refine aw rfl rfl ?_
      exact ih (left + 1) g3 v0 v1 (K3.1, y, K3.2.2) (va_up rf 8 q8) _ (by omega) hX3 (hL3.a2 (d1 104 (by decide) (by decide))) (t3.a2 (d1 102 (by decide) (by decide))) (by show AR (y 111) s1; rw [d1 111 (by decide) (by decide)]; exact hs13) (by show AR (y 112) s2; rw [d1 112 (by decide) (by decide)]; exact hs23) (fun _ a b ha hb hc => by
        show y 109 _ = _
        rcases hc with rfl | ⟨hc, hc2⟩
        · rw [PF_l ha.1.1 ha.2 c97]
          exact d3 a ha (by omega)
        · rw [PF_y ha.1.1 ha.2 hc.1.1 hc.2 c97, ← Nat.add_mul]
          exact d2 a b ha (by omega) hc (by omega)) (fun g4 w0 w1 K4 rf4 e1 e2 e3 e4 e5 => q g4 w0 w1 K4 rf4 (t1.tr e1) e2 e3 (t2.rr.tr ((KRr.up d1).tr e4)) (fun i hi => (e5 i hi).trans (vu_ot (by omega))))
    · refine aw rfl rfl ?_
      refine aw rfl rfl ?_
      refine aw_c (v := nI 2) rfl (by decide) ?_
      refine aw_divn rfl (by omega) (by omega) (by omega) ?_
      refine aw rfl rfl ?_
      refine aw_cv (d1 := 4) (L1 := 95) rfl rfl cg_108 rfl rfl (by decide) (by decide) (Nat.le_of_ble_eq_true rfl) (c_X3_takeMyTurn (P := PF T LW (2 * k + 1) (st * T.1 5) left) (s1 := s1) (s2 := s2) (r := (2 * k + 1 - 1 - left) / 2) (left := left) hX3 hL3 hR3 hs13 hs23 hB (fun b => PF_9) (fun m b h1 h2 => PF_h h1 h2) (fun e m b h1 h2 => by rw [e]; exact PF_0 h2) (by omega) (fun e => by have h := c1 ((2 * k + 1 - 1 - left) / 2) (by omega); rw [show st + 2 * ((2 * k + 1 - 1 - left) / 2) = st + (2 * k + 1 - 1 - left) by omega] at h; exact h) (by omega) (fun e m b h1 h2 h3 => hod3 e m b h1 (by omega) (h3.imp id (fun z => ⟨z.1, by have := z.2; omega⟩))) (fun y d1 d2 => ?_))
      refine aw rfl rfl ?_
      refine aw_incn (c := 1) (ls' := [_, _, _, _, _, _, _]) rfl rfl (by decide) rfl ?_
      refine aw rfl rfl ?_
      exact ih (left + 1) g3 v0 v1 (K3.1, y, K3.2.2) (va_up rf 8 q8) _ (by omega) hX3 (hL3.a2 (d1 104 (by decide) (by decide))) (t3.a2 (d1 102 (by decide) (by decide))) (by show AR (y 111) s1; rw [d1 111 (by decide) (by decide)]; exact hs13) (by show AR (y 112) s2; rw [d1 112 (by decide) (by decide)]; exact hs23) (fun _ a b ha hb hc => by
        show y 109 _ = _
        rw [PF_m ha.1.1 ha.2 (hc.imp id (fun z => z.1.2)) c97, ← Nat.add_mul]
        exact d2 a b ha (by omega) (hc.imp id (fun z => ⟨z.1, by have := z.2; omega⟩))) (fun g4 w0 w1 K4 rf4 e1 e2 e3 e4 e5 => q g4 w0 w1 K4 rf4 (t1.tr e1) e2 e3 (t2.rr.tr ((KRr.up d1).tr e4)) (fun i hi => (e5 i hi).trans (vu_ot (by omega))))
theorem c_X3_chance {Q : Option Value → am_H → Prop} (hX : CX p T LW T0 T1 g rf) (hL : LLr T K no na lf) (hT : TB T LW g K) {st k mine his : Nat} (hst : st ≤ 1500) (hk : k ≤ 2) (hmo : opn T mine) (hhl : lieOK T his) (q : (∀ g' u0 u1 K' rf', GX g g' K.2.2.2.2 K'.2.2.2.2 → CX p T LW T0 T1 g' rf' → TB T LW g' K' → KRr K K' → (∀ i, i < 8 → rf' i = rf i) → Q (some (.int (nI (PF T LW (2 * k + 1) (st * T.1 5) (2 * k + 1) mine his)))) (ch g' T0 u0 T1 u1 K' rf'))) : AC am_P 6 157 34 [.ref 108, .int (nI st), .int (nI (2 * k + 1)), .int (nI mine), .int (nI his)] (ch g T0 u0 T1 u1 K rf) Q := by
  refine AC.of (ls := [_, _, _, _, _, _, _]) rfl ?_
  have hX0 := hX
  obtain ⟨hp, hG, hW, hU, h8t, hr0, hr3, hr4, hr5, hsix, hf6, hf7, hf67⟩ := hX
  have hG0 := hG
  obtain ⟨⟨g0, g0x⟩, ⟨g1, g1x⟩, ⟨g2, g2x⟩, ⟨g3, g3x⟩, g4, ⟨g5, g5x⟩, g6, gsq, goc, gwt, gsp, gfr⟩ := hG
  have hm96 := hmo.1.1
  have hh96 := hhl.1
  refine aw rfl rfl ?_
  refine aw_getfE rfl cg_108 rfl (congrArg Value.ref hr5) ?_
  refine aw rfl rfl ?_
  refine aw_cv (d1 := 1) (L1 := 21) rfl rfl (sa hp).1 rfl rfl (by decide) (by decide) (Nat.le_of_ble_eq_true rfl) (c_X7_isHomeLie (sa hp) hh96 (fun hz => ?_) (fun hz => ?_))
  · refine aw_ne rfl (fun _ => ?_) (fun c => absurd c (by decide))
    refine aw_c (v := nI 0) rfl (by decide) ?_
    exact aw_iret rfl rfl (by have h9 := q g u0 u1 K rf GX.rf hX0 hT KRr.rf (fun _ _ => rfl); rw [PF_b hm96 hmo.2 hh96 (decide_eq_true hz)] at h9; exact h9)
  · refine aw_ne rfl (fun c => absurd (by decide) c) (fun _ => ?_)
    refine aw rfl rfl ?_
    refine aw_ltn rfl ?_
    refine aw rfl rfl ?_
    refine aw_c (v := nI 96) rfl (by decide) ?_
    refine aw_igen rfl (fun c19 => by omega) (fun c19 => ?_)
    refine aw rfl rfl ?_
    refine aw_ltn rfl ?_
    refine aw rfl rfl ?_
    refine aw_c (v := nI 96) rfl (by decide) ?_
    refine aw_iltn rfl (fun c31 => ?_) (fun c31 => by omega)
    refine aw rfl rfl ?_
    refine aw rfl rfl ?_
    refine aw_getf rfl cg_108 rfl ?_
    refine aw rfl rfl ?_
    refine aw rfl rfl ?_
    refine aw rfl rfl ?_
    refine aw_c (v := nI 2) rfl (by decide) ?_
    refine aw_divn rfl (by omega) (by omega) (by omega) ?_
    rw [show (2 * k + 1) / 2 = k by omega]
    refine aw_cv (d1 := 5) (L1 := 129) rfl rfl cg_108 rfl rfl (by decide) (by decide) (Nat.le_of_ble_eq_true rfl) (c_X3_reach (k := k) (l0 := mine) hX0 hL hT (Or.inl rfl) (by omega) hk hm96 (fun g1 v0 v1 K1 rf1 s1 t1 t2 t3 t4 t5 t6 t7 t8 => ?_))
    refine aw rfl rfl ?_
    refine aw rfl rfl ?_
    refine aw_getf rfl cg_108 rfl ?_
    refine aw rfl rfl ?_
    refine aw rfl rfl ?_
    refine aw_c (v := nI 1) rfl (by decide) ?_
    refine aw_addn rfl ?_
    refine aw rfl rfl ?_
    refine aw_c (v := nI 2) rfl (by decide) ?_
    refine aw_divn rfl (by omega) (by omega) (by omega) ?_
    rw [show (2 * k + 1) / 2 = k by omega]
    refine aw_cv (d1 := 5) (L1 := 129) rfl rfl cg_108 rfl rfl (by decide) (by decide) (Nat.le_of_ble_eq_true rfl) (c_X3_reach (k := k) (l0 := his) (st := st + 1) t2 (hL.kq t4 (by decide)) t3 (Or.inr rfl) (by omega) hk hh96 (fun g2 w0 w1 K2 rf2 s2 e1 e2 e3 e4 e5 e6 e7 e8 => ?_))
    refine aw_c (v := nI 0) rfl (by decide) ?_
    refine aw_ist (ls' := [_, _, _, _, _, _, _]) rfl rfl ?_
    exact l_turns (s1 := s1) (s2 := s2) hst hk hmo ⟨hhl, decide_eq_false hz⟩ hG0 t7 e7 t8 e8 (2 * k + 1) 0 g2 w0 w1 K2 rf2 _ (by omega) e2 ((hL.kq t4 (by decide)).kq e4 (by decide)) e3 (by rw [e4.2.1 111 (by decide) (by decide)]; exact t6) e6 (fun z => absurd rfl z) (fun g4 x0 x1 K4 rf4 i1 i2 i3 i4 i5 => q g4 x0 x1 K4 rf4 ((t1.tr e1).tr i1) i2 i3 (((t4.rr (Or.inl rfl)).tr (e4.rr (Or.inr rfl))).tr i4) (fun i hi => (i5 i hi).trans ((e5 i hi).trans (t5 i hi))))
end C1
theorem fi_6 {T : Sd} {LW : LWt} {t k a b : Nat} {c : Bool} (hG : GS T) (la : lone T a) : fr (PF T LW (2 * (k + 1)) t (2 * (k + 1)) a b) (6 ^ (2 * (k + 1))) c = fr (PF T LW (2 * k + 1) t (2 * k + 1) a b) (6 ^ (2 * k + 1)) c := by
  have h := PF_6 (LW := LW) (t := t) (k := k) hG (2 * k + 1) a b la (Nat.le_refl _)
  rw [show 2 * k + 1 + 1 = 2 * (k + 1) by omega] at h
  rw [h, show 6 ^ (2 * (k + 1)) = 6 * 6 ^ (2 * k + 1) from by rw [show 2 * (k + 1) = 2 * k + 1 + 1 by omega, Nat.pow_succ, Nat.mul_comm]]
  exact fr_6
section C1
variable {g : am_H} {T0 T1 T : Sd} {u0 u1 : Ua} {K : Ck} {rf : Nat → Nat} {p : Nat} {S : Nat → Nat} {u td nt cc : Nat} {P Z : Nat → Nat → Nat} {TD : Nat → Nat} {hd : Nat → Bool} {tp : Nat → Int32} {pc : Int32} {W : Nat → Lw}
theorem CS.rr (hC : CS g T0 u0 T1 u1 K rf p T W S u P td TD hd Z nt tp pc cc) {g' : am_H} {v0 v1 : Ua} {K' : Ck} {rf' : Nat → Nat} (t2 : CX p T (lwf W) T0 T1 g' rf') (t3 : TB T (lwf W) g' K') (t4 : KRr K K') (t5 : ∀ i, i < 8 → rf' i = rf i) : CS g' T0 v0 T1 v1 K' rf' p T W S u P td TD hd Z nt tp pc cc := by
  obtain ⟨h1, h2, ⟨no, na, lf, h3⟩, h4, h5, h6, h7, h8, h9, h10⟩ := hC
  refine ⟨t2, (t5 1 (by decide)).trans h2, ⟨no, na, lf, ?_⟩, t3, ?_, ?_, h7, h8, h9, h10⟩
  · unfold LLr at h3 ⊢
    rw [t4.1, t4.2.1 104 (by decide) (by decide)]
    exact h3
  · have e6 : K'.2.1 (rf' 6) = K.2.1 (rf 6) := by rw [t5 6 (by decide)]; exact t4.2.1 _ (by rcases h1.2.2.2.2.2.2.2.2.2.2.1 with h | h <;> omega) (by rcases h1.2.2.2.2.2.2.2.2.2.2.1 with h | h <;> omega)
    have e7 : K'.2.1 (rf' 7) = K.2.1 (rf 7) := by rw [t5 7 (by decide)]; exact t4.2.1 _ (by rcases h1.2.2.2.2.2.2.2.2.2.2.2.1 with h | h <;> omega) (by rcases h1.2.2.2.2.2.2.2.2.2.2.2.1 with h | h <;> omega)
    unfold FO
    rw [e6, e7, t4.1]
    exact h5
  · unfold PE PSr at h6 ⊢
    rw [t4.1, t4.2.1 9 (by decide) (by decide), t4.2.1 114 (by decide) (by decide), t4.2.2.1]
    exact h6
theorem c_X10_first {Q : Option Value → am_H → Prop} (hC : CS g T0 u0 T1 u1 K rf p T W S u P td TD hd Z nt tp pc cc) {x : Int32} {b : Bool} (q : ∀ g' u0 u1 K' rf', GX g g' K.2.2.2.2 K'.2.2.2.2 → CS g' T0 u0 T1 u1 K' rf' p T W S u P td TD hd Z nt tp pc cc → Q (some (.int (a_first T (lwf W) S x b))) (ch g' T0 u0 T1 u1 K' rf')) : AC am_P 7 183 175 [.ref 8, .int x, .int (bI b)] (ch g T0 u0 T1 u1 K rf) Q := by
  refine AC.of (ls := [_, _, _, _]) rfl ?_
  have hp := hC.cx.1
  have hG := hC.cx.2.1
  have hG0 := hG
  obtain ⟨⟨g0, g0x⟩, ⟨g1, g1x⟩, ⟨g2, g2x⟩, ⟨g3, g3x⟩, g4, ⟨g5, g5x⟩, g6, gsq, goc, gwt, gsp, gfr⟩ := hG
  obtain ⟨s0, s1, s2, s3, s4, s5, s6⟩ := hC.sc
  have hl96 := s0.1
  unfold a_first at q
  obtain ⟨no, na, lf, hL9⟩ := hC.2.2.1
  obtain ⟨fa, fe, ff, f0, f1, f2, f3, f4, f5, f6⟩ := gfr
  have hS6 : S 6 ≤ 2 := by rcases s6 with h | h | h <;> omega
  have hfl : frL T = (fe * 8 + fa) * 3 + ff := by unfold frL; rw [f0, f1, f2, nI_clamp (by omega), nI_clamp (by omega), nI_clamp (by omega)]
  rw [hfl] at q
  refine aw rfl rfl ?_
  refine aw_c (v := nI 1) rfl (by decide) ?_
  refine aw_ilt rfl (fun c2 => ?_) (fun c2 => ?_)
  · refine aw_c (v := -1) rfl (by decide) ?_
    exact aw_iret rfl rfl (by rw [sp_out (Or.inl (Int32.not_le.mpr c2))] at q; exact q _ _ _ _ _ GX.rf hC)
  · refine aw rfl rfl ?_
    refine aw_c (v := nI 3) rfl (by decide) ?_
    refine aw_ile rfl (fun c7 => ?_) (fun c7 => ?_)
    · obtain ⟨n, rfl, hn1, hn⟩ := n_of3 (Int32.not_lt.mp c2) c7 (by decide) (by decide)
      obtain ⟨k, rfl⟩ : ∃ k, n = k + 1 := ⟨n - 1, by omega⟩
      rw [sp_in hn1 hn (by decide)] at q
      refine aw rfl rfl ?_
      refine aw_getf rfl cg_8 rfl ?_
      refine aw_getfE rfl cg_46 rfl (congrArg Value.int (hC.st 6 (by decide))) ?_
      refine aw_eqn rfl (fun c19 => ?_) (fun c19 => ?_)
      · have hmo : opn T (S 0 * 3 + S 1) := ⟨s0, by rcases s6 with h | h | h; omega; omega; exact h.1⟩
        rw [if_pos c19, fi_6 hG0 (Or.inr s0)] at q
        refine aw_c (v := nI 2) rfl (by decide) ?_
        refine aw rfl rfl ?_
        refine aw_muln rfl ?_
        refine aw_c (v := nI 1) rfl (by decide) ?_
        refine aw_subn rfl (by omega) ?_
        rw [show 2 * (k + 1) - 1 = 2 * k + 1 by omega]
        refine aw_ist (ls' := [_, _, _, _]) rfl rfl ?_
        refine aw rfl rfl ?_
        refine aw_getf rfl cg_8 rfl ?_
        refine aw rfl rfl ?_
        refine aw_getf rfl cg_8 rfl ?_
        refine aw_getfE rfl cg_46 rfl (congrArg Value.int (hC.st 4 (by decide))) ?_
        refine aw rfl rfl ?_
        refine aw rfl rfl ?_
        refine aw_getf rfl cg_8 rfl ?_
        refine aw_cv (d1 := 1) (L1 := 21) rfl rfl cg_46 rfl rfl (by decide) (by decide) (Nat.le_of_ble_eq_true rfl) (c_X6_lie hC.st ?_)
        refine aw rfl rfl ?_
        refine aw_getfE rfl cg_8 rfl (congrArg Value.ref hC.cx.2.2.2.2.2.1) ?_
        refine aw_cv (d1 := 1) (L1 := 21) rfl rfl (sa hp).1 rfl rfl (by decide) (by decide) (Nat.le_of_ble_eq_true rfl) (c_X7_friendLie (sa hp) f0 f1 f2 ?_)
        refine aw_cv (d1 := 6) (L1 := 157) rfl rfl cg_108 rfl rfl (by decide) (by decide) (Nat.le_of_ble_eq_true rfl) (c_X3_chance (k := k) hC.cx hL9 hC.2.2.2.1 (by omega) (by omega) hmo f6 (fun g9 v0 v1 K9 rf9 t1 t2 t3 t4 t5 => ?_))
        have hC9 := hC.rr (v0 := v0) (v1 := v1) t2 t3 t4 t5
        have hcn : PF T (lwf W) (2 * k + 1) (S 4 * T.1 5) (2 * k + 1) (S 0 * 3 + S 1) ((fe * 8 + fa) * 3 + ff) ≤ 6 ^ (2 * k + 1) := PF_le hG0 _ _ _
        refine aw rfl rfl ?_
        refine aw rfl rfl ?_
        refine aw_cs (d1 := 1) (L1 := 25) rfl rfl (by decide) (by decide) (Nat.le_of_ble_eq_true rfl) (c_X10_fraction hC9.six (by omega) hcn ?_)
        exact aw_iret rfl rfl (q _ _ _ _ _ t1 hC9)
      · refine aw_c (v := -2) rfl (by decide) ?_
        exact aw_iret rfl rfl (by rw [if_neg c19] at q; exact q _ _ _ _ _ GX.rf hC)
    · refine aw_c (v := -1) rfl (by decide) ?_
      exact aw_iret rfl rfl (by rw [sp_out (Or.inr c7)] at q; exact q _ _ _ _ _ GX.rf hC)
end C1
