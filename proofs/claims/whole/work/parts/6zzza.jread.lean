/-! ===== read, of both ===== -/
section J3
variable {g : am_H} {T0 T1 T0' T1' T : Sd} {u0 u1 u0' u1' : Ua} {K K' : Ck} {rf rf' : Nat → Nat} {p : Nat} {W : Nat → Lw} {S : Nat → Nat} {u td nt cc : Nat} {P Z : Nat → Nat → Nat} {TD : Nat → Nat} {hd : Nat → Bool} {tp : Nat → Int32} {pc pc' : Int32}
theorem CS.rd0 (hS : CS g T0 u0 T1 u1 K rf p T W S u P td TD hd Z nt tp pc cc) (hp : SP2 p T T0' T1') (hk : KZ K (va_up (va_up K'.1 0 (K.1 0)) 1 (K.1 1), K'.2)) (h0 : K'.1 0 = nI 0) (h1 : K'.1 1 = pc') (hr : ∀ n, ¬ n = 2 → rf' n = rf n) : CS g T0' u0' T1' u1' K' rf' p T W S u P td TD hd Z 0 tp pc' cc := by
  obtain ⟨⟨a1, a2, a3, a4, a5, a6, a7, a8, a9, b1, b2, b3, b4⟩, c1, ⟨no, na, lf, c2⟩, c3, c4, c5, c6⟩ := hS
  have k1 : ∀ m, 15 < m → K'.1 m = K.1 m := fun m hm => by
    have := hk.1 m (Or.inr hm)
    have e : va_up (va_up K'.1 0 (K.1 0)) 1 (K.1 1) m = K'.1 m := by rw [vu_ot (by omega), vu_ot (by omega)]
    exact e.symm.trans this
  have k2 : ∀ j, ¬ (j = 43 ∨ j = 44 ∨ j = 45) → K'.2.1 j = K.2.1 j := hk.2.1
  have k3 : K'.2.2.1 = K.2.2.1 := hk.2.2.1
  have k4 : K'.2.2.2.2 = K.2.2.2.2 := hk.2.2.2
  have k67 : K'.2.1 (rf 6) = K.2.1 (rf 6) ∧ K'.2.1 (rf 7) = K.2.1 (rf 7) := ⟨k2 _ (by unfold fcP at b2; omega), k2 _ (by unfold fcP at b3; omega)⟩
  refine ⟨⟨hp, a2, a3, a4, a5, by rw [hr 0 (by omega)]; exact a6, by rw [hr 3 (by omega)]; exact a7, by rw [hr 4 (by omega)]; exact a8, by rw [hr 5 (by omega)]; exact a9, b1, by rw [hr 6 (by omega)]; exact b2, by rw [hr 7 (by omega)]; exact b3, by rw [hr 6 (by omega), hr 7 (by omega)]; exact b4⟩, by rw [hr 1 (by omega)]; exact c1, ⟨no, na, lf, ?_⟩, ?_, ?_, ?_, c6⟩
  · unfold LLr
    rw [k1 18 (by omega), k1 19 (by omega), k2 104 (by omega)]
    exact c2
  · unfold TB
    rw [k4, k2 102 (by omega)]
    exact c3
  · unfold FO
    rw [k1 20 (by omega), k1 21 (by omega), k1 22 (by omega), k1 23 (by omega), k1 24 (by omega), hr 6 (by omega), hr 7 (by omega), k67.1, k67.2]
    exact c4
  · obtain ⟨d1, d2, d3, d4, d5, d6⟩ := c5
    refine ⟨by rw [k3]; exact d1, ?_, by rw [k3]; exact d3, by rw [k1 25 (by omega), k2 114 (by omega)]; exact d4, ⟨Nat.zero_le _, h0, fun i hi => absurd hi (Nat.not_lt_zero i)⟩, h1⟩
    unfold PSr
    rw [k1 17 (by omega), k1 16 (by omega), k3]
    exact d2
theorem rdR_0 {Y : Tk} {n : Nat} (h : (rdR Y n).1 = 0) : (rdR Y n).2 = -1 := by
  unfold rdR at h ⊢
  by_cases h1 : ¬ (rd Y).2.2.1.1 = 0
  · rw [if_pos h1] at h; exact absurd h h1
  · rw [if_neg h1] at h ⊢
    by_cases h2 : ¬ (rd Y).2.2.2.1 = 0
    · rw [if_pos h2] at h; exact absurd h h2
    · rw [if_neg h2] at h ⊢
      by_cases h3 : whB (rd Y).1 = true
      · rw [if_pos h3]
      · rw [if_neg h3] at h; exact absurd h (show ¬ 7 = 0 by decide)
theorem CS.rd1 {K1 : Ck} {C : List Int32} {x : Nat → Int32} {n : Nat} {u' : Ua} {p' : Nat} {T' : Sd} (hS : CS g T0 u0 T1 u1 K rf p T W S u P td TD hd Z nt tp pc cc) (hp : SP2 p' T' T0' T1') (hk : KZ K K1) (hD : CDt T' u' K1 C (rd (tkS x n)).1 True) (hgD : gD (rd (tkS x n)).1) (hW : whB (rd (tkS x n)).1 = true) {z : Int32} (hB : BGf T' (va_up (va_up K1.1 1 z) 0 (nI 0), K1.2) K') (hr0 : rf' 0 = p') (hr1 : rf' 1 = 35 - p') (hr3 : rf' 3 = p' ∧ rf' 4 = p' ∧ rf' 5 = p') (hr : rf' 6 = rf 6 ∧ rf' 7 = rf 7) (hz : z = -1) : CS g T0' u0' T1' u1' K' rf' p' T' (rd (tkS x n)).1.2.2.2.2.2 (bgS T') 0 P 0 TD (fun _ => false) Z 0 tp (-1) cc ∧ K'.2.2.2.2 = K.2.2.2.2 ∧ GS T' := by
  obtain ⟨⟨a1, a2, a3, a4, a5, a6, a7, a8, a9, b1, b2, b3, b4⟩, c1, _, ⟨t1, t2, t3, t4⟩, c4, c5, c6, c7, c8, c9⟩ := hS
  obtain ⟨q1, q2, q3, q4, q5, q6, q7, q8, q9, r1, r2, r3⟩ := hB
  have hG := hD.gs hgD hW
  obtain ⟨l1, l2⟩ := hD.2.2.1.lws (rd_V tk_yv)
  obtain ⟨s1, s2, s3, s4, s5⟩ := bg_sg hG
  have k4 : K'.2.2.2.2 = K.2.2.2.2 := (congrArg (fun w : (Nat → Int64) × (Nat → Option Nat) => w.2) r3).trans hk.2.2.2
  have h8 := hD.2.2.1.2.1
  refine ⟨⟨⟨hp, hG, l1, l2, by omega, hr0, hr3.1, hr3.2.1, hr3.2.2, b1, by rw [hr.1]; exact b2, by rw [hr.2]; exact b3, by rw [hr.1, hr.2]; exact b4⟩, hr1, q6, ⟨t1, fun a ha q hq => ?_, by rw [k4]; exact t3, fun a ha _ => q7 a ha⟩, Or.inl q8, ⟨q1, ⟨Nat.zero_le _, q3, 0, by decide, q2, fun i hi => absurd hi (Nat.not_lt_zero i)⟩, fun s hs => ⟨q5 s hs, fun w => absurd w Bool.false_ne_true⟩, ⟨Nat.zero_le _, q4, fun i hi => absurd hi (Nat.not_lt_zero i)⟩, ⟨Nat.zero_le _, q9, fun i hi => absurd hi (Nat.not_lt_zero i)⟩, ?_⟩, ⟨s1, by omega, by omega, by omega⟩, fun i hi => absurd hi (Nat.not_lt_zero i), fun s _ w => absurd w Bool.false_ne_true, c9⟩, k4, hG⟩
  · rw [k4] at hq
    obtain ⟨e1, e2, f, e3, _⟩ := t2 a ha q hq
    refine ⟨e1, e2, f, e3, fun s hs hs2 => ?_⟩
    rw [q7 a ha] at hs2
    have e9 := congrArg Int32.toInt hs2
    rw [nI_toInt hs, show (-1 : Int32).toInt = -1 by decide] at e9
    omega
  · rw [r1, ← hz]
    rfl
end J3
section J4
variable {N A B n : Nat} {f : Nat → Int32} {h : am_H} {Q : Option Value → am_H → Prop}
theorem j_read (hJ : J N f A B n h) (q : ∀ h1 a, SK N f h1 → (∀ Q2 : Option Value → am_H → Prop, (∀ h2, J N f A B (n + 1) h2 → Q2 (some (.int a)) h2) → AC am_P 7 147 194 [.ref 121] h1 Q2) → Q (some (.int a)) h1) : AC am_P 9 215 135 [.ref 8] h Q := by
  obtain ⟨T0, u0, T1, u1, K, rf, p, k, v, pl, br, lo, c, ct, pr, pt, cm, bf, bt, T, W, S, u, P, td, TD, hd, Z, nt, tp, pc, cc, hC, hM, hCS, hMS, hb, hst, hAB, hcc⟩ := hJ
  have hCS0 := hCS
  obtain ⟨⟨a1, a2, a3, a4, a5, a6, a7, a8, a9, b1, b2, b3, b4⟩, c1, c2, c3, c4, ⟨d1, d2, d3, d4, ⟨d5, d6, d7⟩, d8⟩, c6⟩ := hCS
  have eY : tkS (K.2.1 9) nt = tkS tp nt := tkS_cg d7
  have hB9 : ∀ j, j < nt → K.2.1 9 j ≤ 127 := fun j hj => by rw [d7 j hj]; exact (hb j hj).2
  refine (congrArg (fun w9 => AC am_P 9 215 135 [.ref 8] w9 Q) hC).mpr ?_
  rcases a1 with ⟨e1, e2⟩ | ⟨e1, e2⟩
  · subst e1
    refine c_X10_read (z := false) (T := T1) (u := u1) (X := (T0, u0)) (n := nt) hst.1 d5 hB9 d6 (by rw [a6]; rfl) (by rw [c1]; rfl) (fun hne K9 T9 u9 hk9 h09 h19 => ?_) (fun h0 K1 K9 T9 u9 C9 hk1 hD9 hg9 hw9 hB9 => ?_)
    · rw [eY] at hne h19 ⊢
      have hS9 := CS.rd0 (T0' := T0) (T1' := T9) (u0' := u0) (u1' := u9) hCS0 (Or.inl ⟨rfl, e2⟩) hk9 h09 h19 (rf' := va_up rf 2 25) (fun n hn => vu_ot hn)
      obtain ⟨hC1, hM1, hCS1, hst1, hAB1⟩ := j_cls hM hst hAB (GX.kk (K' := K9) hk9.2.2.2) hS9
      refine q _ _ (SK.of hC1 hM1 hst1.2) (fun Q2 q2 => ?_)
      refine (congrArg (fun w9 => AC am_P 7 147 194 [.ref 121] w9 Q2) hM1).mpr ?_
      refine c_X11_read hMS hb (fun _ k9 hMS9 => ?_) (fun w => absurd w hne)
      exact q2 _ (j_mdl hC1 hst1 hAB1 hCS1 hMS9 (fun j hj => absurd hj (Nat.not_lt_zero j)) (by omega))
    · rw [eY] at h0 hD9 hg9 hw9 hB9
      obtain ⟨hS9, hK9, hG9⟩ := CS.rd1 (T0' := T0) (T1' := T9) (u0' := u0) (u1' := u9) (rf' := rf3 (va_up (va_up (va_up rf 2 25) 0 25) 1 10) 25) (p' := 25) hCS0 (Or.inr ⟨rfl, rfl⟩) hk1 hD9 hg9 hw9 hB9 rfl rfl ⟨rfl, rfl, rfl⟩ ⟨rfl, rfl⟩ (rdR_0 h0)
      obtain ⟨hC1, hM1, hCS1, hst1, hAB1⟩ := j_cls hM hst hAB (GX.kk (K' := K9) hK9) hS9
      refine q _ _ (SK.of hC1 hM1 hst1.2) (fun Q2 q2 => ?_)
      refine (congrArg (fun w9 => AC am_P 7 147 194 [.ref 121] w9 Q2) hM1).mpr ?_
      refine c_X11_read hMS hb (fun w => absurd h0 w) (fun _ k9 hMS9 => ?_)
      exact q2 _ (j_mdl hC1 hst1 hAB1 hCS1 (hMS9 _ _ _ _ hD9 hG9) (fun j hj => absurd hj (Nat.not_lt_zero j)) (by omega))
  · subst e1
    refine c_X10_read (z := true) (T := T0) (u := u0) (X := (T1, u1)) (n := nt) hst.1 d5 hB9 d6 (by rw [a6]; rfl) (by rw [c1]; rfl) (fun hne K9 T9 u9 hk9 h09 h19 => ?_) (fun h0 K1 K9 T9 u9 C9 hk1 hD9 hg9 hw9 hB9 => ?_)
    · rw [eY] at hne h19 ⊢
      have hS9 := CS.rd0 (T0' := T9) (T1' := T1) (u0' := u9) (u1' := u1) hCS0 (Or.inr ⟨rfl, e2⟩) hk9 h09 h19 (rf' := va_up rf 2 10) (fun n hn => vu_ot hn)
      obtain ⟨hC1, hM1, hCS1, hst1, hAB1⟩ := j_cls hM hst hAB (GX.kk (K' := K9) hk9.2.2.2) hS9
      refine q _ _ (SK.of hC1 hM1 hst1.2) (fun Q2 q2 => ?_)
      refine (congrArg (fun w9 => AC am_P 7 147 194 [.ref 121] w9 Q2) hM1).mpr ?_
      refine c_X11_read hMS hb (fun _ k9 hMS9 => ?_) (fun w => absurd w hne)
      exact q2 _ (j_mdl hC1 hst1 hAB1 hCS1 hMS9 (fun j hj => absurd hj (Nat.not_lt_zero j)) (by omega))
    · rw [eY] at h0 hD9 hg9 hw9 hB9
      obtain ⟨hS9, hK9, hG9⟩ := CS.rd1 (T0' := T9) (T1' := T1) (u0' := u9) (u1' := u1) (rf' := rf3 (va_up (va_up (va_up rf 2 10) 0 10) 1 25) 10) (p' := 10) hCS0 (Or.inl ⟨rfl, rfl⟩) hk1 hD9 hg9 hw9 hB9 rfl rfl ⟨rfl, rfl, rfl⟩ ⟨rfl, rfl⟩ (rdR_0 h0)
      obtain ⟨hC1, hM1, hCS1, hst1, hAB1⟩ := j_cls hM hst hAB (GX.kk (K' := K9) hK9) hS9
      refine q _ _ (SK.of hC1 hM1 hst1.2) (fun Q2 q2 => ?_)
      refine (congrArg (fun w9 => AC am_P 7 147 194 [.ref 121] w9 Q2) hM1).mpr ?_
      refine c_X11_read hMS hb (fun w => absurd h0 w) (fun _ k9 hMS9 => ?_)
      exact q2 _ (j_mdl hC1 hst1 hAB1 hCS1 (hMS9 _ _ _ _ hD9 hG9) (fun j hj => absurd hj (Nat.not_lt_zero j)) (by omega))
end J4
