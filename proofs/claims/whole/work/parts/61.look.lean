/-! ===== the class: a look ahead ===== -/
theorem lay_ut {T : Sd} {LW : LWt} {F : Nat → Nat → Nat} {r : Option Nat} {hv : Nat → Nat} {l w : Nat} {x y : Int32} (h : UT T LW) (h0 : T.1 8 = 0) : lay T LW F r hv l w x = lay T LW F r hv l w y := by
  have hl : ∀ way, ld T LW F l w way x = ld T LW F l w way y := fun way => by unfold ld; rw [n_land_ut (x := x) (y := y) h h0]
  have hva : (fun a => va T LW F l w a x) = fun a => va T LW F l w a y := by
    funext a
    unfold va
    simp only [hl]
  have ha : act T LW F r l w x = act T LW F r l w y := by
    cases r with
    | some j => rfl
    | none => show bsA (bs (fun a => va T LW F l w a x) _ _) = bsA (bs (fun a => va T LW F l w a y) _ _); rw [hva]
  unfold lay
  rw [ha]
  exact congrArg (fun z => if hm T l = true then hv l else z) (congrFun hva _)
theorem Fc_ut {T : Sd} {LW : LWt} {r : Option Nat} {gl : Nat → Bool} (h : UT T LW) (h0 : T.1 8 = 0) : ∀ n t t', Fc T LW r gl n t = Fc T LW r gl n t' := by
  intro n
  induction n with
  | zero => intro t t'; rfl
  | succ n ih =>
    intro t t'
    funext l w
    show lay T LW _ r _ l w (nI t) = lay T LW _ r _ l w (nI t')
    rw [ih (t + T.1 5) (t' + T.1 5)]
    exact lay_ut h h0
theorem rI_inj {r r' : Option Nat} (h : ∀ j, r = some j → j < 2147483648) (h' : ∀ j, r' = some j → j < 2147483648) (e : rI r = rI r') : r = r' := by
  cases r with
  | none =>
    cases r' with
    | none => rfl
    | some j => exact absurd e.symm (n_m1 (h' j rfl))
  | some i =>
    cases r' with
    | none => exact absurd e (n_m1 (h i rfl))
    | some j => exact congrArg some ((nI_eq (h i rfl) (h' j rfl)).mp e)
/-- what a forecast that is ready holds -/
def FO (T : Sd) (LW : LWt) (K : Ck) (rf : Nat → Nat) : Prop := K.1 20 = nI 0 ∨ (K.1 20 = nI 1 ∧ ∃ (st n : Nat) (r gq : Option Nat), st < 2147483648 ∧ n ≤ 10 ∧ (∀ j, r = some j → j < T.1 3) ∧ (∀ s, gq = some s → s < 32) ∧ K.1 21 = nI st ∧ K.1 22 = nI n ∧ K.1 23 = rI r ∧ K.1 24 = rI gq ∧ FA T (K.2.1 (rf 6)) (Fc T LW r (glB T gq) n (st * T.1 5)) ∧ (1 ≤ n → FA T (K.2.1 (rf 7)) (Fc T LW r (glB T gq) (n - 1) (st * T.1 5 + T.1 5))))
def KLk (K K' : Ck) : Prop := (∀ i, ¬ (20 ≤ i ∧ i ≤ 24) → K'.1 i = K.1 i) ∧ (∀ j, j ≠ 102 → j ≠ 106 → j ≠ 107 → K'.2.1 j = K.2.1 j) ∧ K'.2.2.1 = K.2.2.1 ∧ K'.2.2.2.1 = K.2.2.2.1
theorem KLk.rf {K : Ck} : KLk K K := ⟨fun _ _ => rfl, fun _ _ _ _ => rfl, rfl, rfl⟩
theorem KLk.tr {K K1 K2 : Ck} (h : KLk K K1) (h1 : KLk K1 K2) : KLk K K2 := ⟨fun i hi => (h1.1 i hi).trans (h.1 i hi), fun j a b c => (h1.2.1 j a b c).trans (h.2.1 j a b c), h1.2.2.1.trans h.2.2.1, h1.2.2.2.trans h.2.2.2⟩
theorem KT.lk {K K' : Ck} (h : KT K K') : KLk K K' := ⟨fun i _ => by rw [h.1], fun j a _ _ => h.2.1 j a, h.2.2.1, h.2.2.2⟩
theorem KLk.fa {K : Ck} {q : Nat} {f : Nat → Int32} (hq : fcP q) : KLk K (K.1, va_up K.2.1 q f, K.2.2) := ⟨fun _ _ => rfl, fun j _ h1 h2 => vu_ot (by rcases hq with rfl | rfl <;> assumption), rfl, rfl⟩
theorem LLr.lk {T : Sd} {K K' : Ck} {no na : Nat} {lf : Nat → Nat} (h : LLr T K no na lf) (hk : KLk K K') : LLr T K' no na lf := by
  unfold LLr
  rw [hk.1 18 (by omega), hk.1 19 (by omega), hk.2.1 104 (by decide) (by decide) (by decide)]
  exact h
theorem TB.fa {T : Sd} {LW : LWt} {g : am_H} {K : Ck} {q : Nat} {f : Nat → Int32} (h : TB T LW g K) (hq : fcP q) : TB T LW g (K.1, va_up K.2.1 q f, K.2.2) := by
  unfold TB
  rw [show (K.1, va_up K.2.1 q f, K.2.2).2.1 102 = K.2.1 102 from vu_ot (by rcases hq with rfl | rfl <;> decide)]
  exact h
theorem TB.y {T : Sd} {LW : LWt} {g : am_H} {K : Ck} {Y : Nat → Int32} (h : TB T LW g K) : TB T LW g (Y, K.2) := h
section C1
variable {g : am_H} {T0 T1 T : Sd} {u0 u1 : Ua} {K : Ck} {rf : Nat → Nat} {p : Nat} {LW : LWt} {S : Nat → Nat} {u td nt cc : Nat} {P Z : Nat → Nat → Nat} {TD : Nat → Nat} {hd : Nat → Bool} {tp : Nat → Int32} {pc : Int32}
variable {no na : Nat} {lf : Nat → Nat}
theorem CX.sw {q8 : Nat} (h : CX p T LW T0 T1 g rf) : CX p T LW T0 T1 g (va_up rf 8 q8) := h.to (r := n_ring) (r' := n_ring) GX.rf (fun i hi => vu_ot (by omega))
theorem CX.sx (h : CX p T LW T0 T1 g rf) : CX p T LW T0 T1 g (va_up (va_up rf 7 (rf 6)) 6 (rf 7)) := by
  obtain ⟨h1, h2, h3, h4, h5, h6, h7, h8, h9, h10, h11, h12, h13⟩ := h
  exact ⟨h1, h2, h3, h4, h5, h6, h7, h8, h9, h10, h12, h11, fun z => h13 z.symm⟩
theorem c_X0_swap {Q : Option Value → am_H → Prop} (q : Q none (ch g T0 u0 T1 u1 K (va_up (va_up rf 7 (rf 6)) 6 (rf 7)))) : AC am_P 0 0 3 [.ref 105] (ch g T0 u0 T1 u1 K rf) Q := by
  refine AC.of (ls := [_, _]) rfl ?_
  refine aw rfl rfl ?_
  refine aw_getf rfl cg_105 rfl ?_
  refine aw_ast (ls' := [_, _]) rfl rfl ?_
  refine aw rfl rfl ?_
  refine aw rfl rfl ?_
  refine aw_getf rfl cg_105 rfl ?_
  refine aw_putfU rfl cg_105 rfl rfl (by decide) cp_105_3 ?_
  refine aw rfl rfl ?_
  refine aw rfl rfl ?_
  refine aw_putfU rfl cg_105 rfl rfl (by decide) cp_105_2 ?_
  exact aw_vret rfl rfl q
theorem l_look {Q : Option Value → am_H → Prop} (hX : CX p T LW T0 T1 g rf) (hL : LLr T K no na lf) (hT : TB T LW g K) {st n ct : Nat} {r gq : Option Nat} (hr : ∀ j, r = some j → j < T.1 3) (hs : ∀ s, gq = some s → s < 32) (hst : st ≤ 1500) (hn : n ≤ 10) (hct : ct = if T.1 8 = 0 then 0 else st) (q : (∀ g' u0 u1 K' rf', GX g g' K.2.2.2.2 K'.2.2.2.2 → CX p T LW T0 T1 g' rf' → LLr T K' no na lf → TB T LW g' K' → FO T LW K' rf' → KLk K K' → FA T (K'.2.1 (rf' 6)) (Fc T LW r (glB T gq) n (st * T.1 5)) → (1 ≤ n → FA T (K'.2.1 (rf' 7)) (Fc T LW r (glB T gq) (n - 1) (st * T.1 5 + T.1 5))) → (∀ i, i < 6 → rf' i = rf i) → Q none (ch g' T0 u0 T1 u1 K' rf'))) : AW am_P 5 129 2 52 [some (.ref 105), some (.int (nI st)), some (.int (nI n)), some (.int (rI r)), some (.int (rI gq)), some (.int (nI ct)), none] [] (ch g T0 u0 T1 u1 K rf) Q := by
  have hX0 := hX
  obtain ⟨hp, hG, hW, hU, h8t, hr0, hr3, hr4, hr5, hsix, hf6, hf7, hf67⟩ := hX
  have hG0 := hG
  obtain ⟨⟨g0, g0x⟩, ⟨g1, g1x⟩, ⟨g2, g2x⟩, ⟨g3, g3x⟩, g4, ⟨g5, g5x⟩, g6, gsq, goc, gwt, gsp, gfr⟩ := hG
  have hcv : ∀ c, FA T c (Fc T LW r (glB T gq) n (st * T.1 5)) → FA T c (Fc T LW r (glB T gq) n (ct * T.1 5)) := fun c h => by
    by_cases e : T.1 8 = 0
    · rw [Fc_ut hU e n _ (st * T.1 5)]; exact h
    · rw [hct, if_neg e]; exact h
  have hcw : ∀ c, FA T c (Fc T LW r (glB T gq) (n - 1) (st * T.1 5 + T.1 5)) → FA T c (Fc T LW r (glB T gq) (n - 1) (ct * T.1 5 + T.1 5)) := fun c h => by
    by_cases e : T.1 8 = 0
    · rw [Fc_ut hU e (n - 1) _ (st * T.1 5 + T.1 5)]; exact h
    · rw [hct, if_neg e]; exact h
  refine aw rfl rfl ?_
  refine aw_c (v := nI 1) rfl (by decide) ?_
  refine aw_putfU rfl cg_105 rfl rfl (by decide) cp_105_4 ?_
  refine aw rfl rfl ?_
  refine aw rfl rfl ?_
  refine aw_putfU rfl cg_105 rfl rfl (by decide) cp_105_5 ?_
  refine aw rfl rfl ?_
  refine aw rfl rfl ?_
  refine aw_putfU rfl cg_105 rfl rfl (by decide) cp_105_6 ?_
  refine aw rfl rfl ?_
  refine aw rfl rfl ?_
  refine aw_putfU rfl cg_105 rfl rfl (by decide) cp_105_7 ?_
  refine aw rfl rfl ?_
  refine aw rfl rfl ?_
  refine aw_putfU rfl cg_105 rfl rfl (by decide) cp_105_8 ?_
  refine aw_c (v := nI 0) rfl (by decide) ?_
  refine aw_ist (ls' := [_, _, _, _, _, _, _]) rfl rfl ?_
  refine aw_loop (α := am_H × Ua × Ua × Ck × (Nat → Nat)) (ll := fun left y => [some (.ref 105), some (.int (nI st)), some (.int (nI n)), some (.int (rI r)), some (.int (rI gq)), some (.int (nI ct)), some (.int (nI left))]) (hh := fun left y => ch y.1 T0 y.2.1 T1 y.2.2.1 y.2.2.2.1 y.2.2.2.2) (I := fun left y => GX g y.1 K.2.2.2.2 y.2.2.2.1.2.2.2.2 ∧ CX p T LW T0 T1 y.1 y.2.2.2.2 ∧ TB T LW y.1 y.2.2.2.1 ∧ KLk (va_up (va_up (va_up (va_up (va_up K.1 20 (nI 1)) 21 (nI ct)) 22 (nI n)) 23 (rI r)) 24 (rI gq), K.2) y.2.2.2.1 ∧ y.2.2.2.1.1 = (va_up (va_up (va_up (va_up (va_up K.1 20 (nI 1)) 21 (nI ct)) 22 (nI n)) 23 (rI r)) 24 (rI gq), K.2).1 ∧ (∀ i, i < 6 → y.2.2.2.2 i = rf i) ∧ (1 ≤ left → FA T (y.2.2.2.1.2.1 (y.2.2.2.2 6)) (Fc T LW r (glB T gq) (left - 1) ((st + n + 1 - left) * T.1 5))) ∧ (2 ≤ left → FA T (y.2.2.2.1.2.1 (y.2.2.2.2 7)) (Fc T LW r (glB T gq) (left - 2) ((st + n + 2 - left) * T.1 5)))) (N := n + 1) (fun left y hl hIl ihl => ?_) (fun y hIl => ?_) 0 (g, u0, u1, (va_up (va_up (va_up (va_up (va_up K.1 20 (nI 1)) 21 (nI ct)) 22 (nI n)) 23 (rI r)) 24 (rI gq), K.2), rf) (Nat.zero_le _) ⟨GX.rf, hX0, hT, KLk.rf, rfl, fun _ _ => rfl, fun z => absurd z (by decide), fun z => absurd z (by decide)⟩
  · skip
    obtain ⟨g2, v0, v1, K2, rf2⟩ := y
    obtain ⟨i1, i2, i3, i4, i5, i6, i7, i8⟩ := hIl
    dsimp only at i1 i2 i3 i4 i5 i6 i7 i8 ⊢
    have hX2 := i2.sx
    have hL1 : LLr T (va_up (va_up (va_up (va_up (va_up K.1 20 (nI 1)) 21 (nI ct)) 22 (nI n)) 23 (rI r)) 24 (rI gq), K.2) no na lf := hL
    have hL2 : LLr T K2 no na lf := hL1.lk i4
    have h23 : K2.1 23 = rI r := by rw [i5]; rfl
    have h24 : K2.1 24 = rI gq := by rw [i5]; rfl
    have hn0 : left ≤ 10 := by omega
    by_cases e0 : left = 0
    · skip
      refine aw rfl rfl ?_
      refine aw rfl rfl ?_
      refine aw_igtn rfl (fun c85 => by omega) (fun c85 => ?_)
      refine aw rfl rfl ?_
      refine aw_cv (d1 := 0) (L1 := 0) rfl rfl cg_105 rfl rfl (by decide) (by decide) (Nat.le_of_ble_eq_true rfl) (c_X0_swap ?_)
      refine aw rfl rfl ?_
      refine aw_len rfl (fun c94 => ?_) (fun c94 => by omega)
      refine aw rfl rfl ?_
      refine aw rfl rfl ?_
      refine aw_cv (d1 := 4) (L1 := 97) rfl rfl cg_105 rfl rfl (by decide) (by decide) (Nat.le_of_ble_eq_true rfl) (c_X0_fillLayer (t := (st + n) * T.1 5) hX2 hL2 hr hs h23 h24 (left := left) hn0 (fun z => absurd z (by omega)) (fun f hf => ?_))
      refine aw_incn (c := 1) (ls' := [_, _, _, _, _, _, _]) rfl rfl (by decide) rfl ?_
      refine aw rfl rfl ?_
      refine ihl (g2, v0, v1, (K2.1, va_up K2.2.1 ((va_up (va_up rf2 7 (rf2 6)) 6 (rf2 7)) 6) f, K2.2.2), (va_up (va_up rf2 7 (rf2 6)) 6 (rf2 7))) ⟨i1, hX2, i3.fa (hX2.2.2.2.2.2.2.2.2.2.2.1), i4.tr (KLk.fa hX2.2.2.2.2.2.2.2.2.2.2.1), i5, fun i hi2 => (vu_ot (by omega)).trans ((vu_ot (by omega)).trans (i6 i hi2)), fun _ => ?_, fun z => absurd z (by omega)⟩
      dsimp only
      rw [vu_at (f := K2.2.1), show st + n + 1 - (left + 1) = st + n by omega, show left + 1 - 1 = left by omega]
      exact hf
    · skip
      refine aw rfl rfl ?_
      refine aw rfl rfl ?_
      refine aw_igtn rfl (fun c85 => by omega) (fun c85 => ?_)
      refine aw rfl rfl ?_
      refine aw_cv (d1 := 0) (L1 := 0) rfl rfl cg_105 rfl rfl (by decide) (by decide) (Nat.le_of_ble_eq_true rfl) (c_X0_swap ?_)
      refine aw rfl rfl ?_
      refine aw_len rfl (fun c94 => by omega) (fun c94 => ?_)
      refine aw rfl rfl ?_
      refine aw_getf rfl cg_105 rfl ?_
      refine aw rfl rfl ?_
      refine aw rfl rfl ?_
      refine aw_addn rfl ?_
      refine aw rfl rfl ?_
      refine aw_subn rfl (by omega) ?_
      refine aw_cv (d1 := 4) (L1 := 100) rfl rfl cg_100 rfl rfl (by decide) (by decide) (Nat.le_of_ble_eq_true rfl) (c_X8_turnTo (T := T) (LW := LW) (p := p) hp (show (va_up (va_up rf2 7 (rf2 6)) 6 (rf2 7)) 3 = p from (i6 3 (by decide)).trans hr3) hG0 hW hU h8t hL2 i3 (w := st + n - left) (by omega) (fun g3 v0 v1 K3 q8 f8 t1 t2 t3 t4 t5 t6 => ?_))
      have hX3 : CX p T LW T0 T1 g3 (va_up (va_up (va_up rf2 7 (rf2 6)) 6 (rf2 7)) 8 q8) := (hX2.to t1 (fun _ _ => rfl)).sw
      have hla : FA T (K3.2.1 ((va_up (va_up (va_up rf2 7 (rf2 6)) 6 (rf2 7)) 8 q8) 7)) (Fc T LW r (glB T gq) (left - 1) (((st + n - left) * T.1 5) + T.1 5)) := by
        show FA T (K3.2.1 (rf2 6)) _
        rw [t2.2.1 _ (by rcases i2.2.2.2.2.2.2.2.2.2.2.1 with h | h <;> omega), show ((st + n - left) * T.1 5) + T.1 5 = (st + n + 1 - left) * T.1 5 by rw [show st + n + 1 - left = st + n - left + 1 by omega, Nat.add_mul, Nat.one_mul]]
        exact i7 (by omega)
      refine aw rfl rfl ?_
      refine aw rfl rfl ?_
      refine aw_cv (d1 := 4) (L1 := 97) rfl rfl cg_105 rfl rfl (by decide) (by decide) (Nat.le_of_ble_eq_true rfl) (c_X0_fillLayer (t := ((st + n - left) * T.1 5)) (K := K3) hX3 (hL2.kt t2) hr hs (by rw [t2.1]; exact h23) (by rw [t2.1]; exact h24) (left := left) hn0 (fun _ => ⟨hla, t4, f8, t5, t6⟩) (fun f hf => ?_))
      refine aw_incn (c := 1) (ls' := [_, _, _, _, _, _, _]) rfl rfl (by decide) rfl ?_
      refine aw rfl rfl ?_
      refine ihl (g3, v0, v1, (K3.1, va_up K3.2.1 ((va_up (va_up (va_up rf2 7 (rf2 6)) 6 (rf2 7)) 8 q8) 6) f, K3.2.2), (va_up (va_up (va_up rf2 7 (rf2 6)) 6 (rf2 7)) 8 q8)) ⟨i1.tr t1, hX3, t3.fa (hX3.2.2.2.2.2.2.2.2.2.2.1), (i4.tr t2.lk).tr (KLk.fa hX3.2.2.2.2.2.2.2.2.2.2.1), t2.1.trans i5, fun i hi2 => (vu_ot (by omega)).trans ((vu_ot (by omega)).trans ((vu_ot (by omega)).trans (i6 i hi2))), fun _ => ?_, fun _ => ?_⟩
      · dsimp only
        rw [vu_at (f := K3.2.1), show st + n + 1 - (left + 1) = st + n - left by omega, show left + 1 - 1 = left by omega]
        exact hf
      · dsimp only
        rw [vu_ot (f := K3.2.1) (fun z => hX3.2.2.2.2.2.2.2.2.2.2.2.2 z.symm), show left + 1 - 2 = left - 1 by omega, show (st + n + 2 - (left + 1)) * T.1 5 = ((st + n - left) * T.1 5) + T.1 5 by rw [show st + n + 2 - (left + 1) = st + n - left + 1 by omega, Nat.add_mul, Nat.one_mul]]
        exact hla
  · skip
    obtain ⟨g2, v0, v1, K2, rf2⟩ := y
    obtain ⟨i1, i2, i3, i4, i5, i6, i7, i8⟩ := hIl
    dsimp only at i1 i2 i3 i4 i5 i6 i7 i8 ⊢
    have hL1 : LLr T (va_up (va_up (va_up (va_up (va_up K.1 20 (nI 1)) 21 (nI ct)) 22 (nI n)) 23 (rI r)) 24 (rI gq), K.2) no na lf := hL
    have h7 := i7 (by omega)
    have h8 : 1 ≤ n → FA T (K2.2.1 (rf2 7)) (Fc T LW r (glB T gq) (n - 1) (st * T.1 5 + T.1 5)) := fun z => by have := i8 (by omega); rw [show n + 1 - 2 = n - 1 by omega, show st + n + 2 - (n + 1) = st + 1 by omega, Nat.add_mul, Nat.one_mul] at this; exact this
    rw [show n + 1 - 1 = n by omega, show st + n + 1 - (n + 1) = st by omega] at h7
    refine aw rfl rfl ?_
    refine aw rfl rfl ?_
    refine aw_igtn rfl (fun c85 => ?_) (fun c85 => by omega)
    exact aw_vret rfl rfl (q g2 v0 v1 K2 rf2 i1 i2 (hL1.lk i4) i3 (Or.inr ⟨by rw [i5]; rfl, ct, n, r, gq, by rw [hct]; split <;> omega, hn, hr, hs, by rw [i5]; rfl, by rw [i5]; rfl, by rw [i5]; rfl, by rw [i5]; rfl, hcv _ h7, fun z => hcw _ (h8 z)⟩) ⟨fun i hi => by rw [i5]; show va_up (va_up (va_up (va_up (va_up K.1 20 _) 21 _) 22 _) 23 _) 24 _ i = _; rw [vu_ot (by omega), vu_ot (by omega), vu_ot (by omega), vu_ot (by omega), vu_ot (by omega)], i4.2.1, i4.2.2.1, i4.2.2.2⟩ h7 h8 i6)
end C1
