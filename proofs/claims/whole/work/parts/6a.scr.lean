theorem if_o {a b x z : Nat} (hz : z = 0) : (if a < b then x else 0) = if a < b then x else if a = b then z else 0 := by
  subst hz
  by_cases e1 : a < b
  · rw [if_pos e1, if_pos e1]
  · rw [if_neg e1, if_neg e1]; split <;> rfl
/-! ===== the class: scratches weighed ===== -/
def nckB (T : Sd) (s j : Nat) : Bool := !(decide (T.2 0 s = -1)) && (decide (T.2 0 s < nI 3) || (decide (T.2 0 s = nI 3) && decide (T.2 1 j = nI 1)))
theorem nckB_iff {T : Sd} {s j : Nat} : nckB T s j = true ↔ n_ck T s j := by
  unfold nckB n_ck
  simp only [Bool.and_eq_true, Bool.or_eq_true, decide_eq_true_eq, Bool.not_eq_true', decide_eq_false_iff_not]
theorem nck_lie {T : Sd} {s j f : Nat} (hG : GS T) (hs : s < 32) (hf : f < T.1 2) (h : n_ck T s j) : lieOK T (s * 3 + f) ∧ hm T (s * 3 + f) = false := by
  obtain ⟨⟨g0, g0x⟩, ⟨g1, g1x⟩, ⟨g2, g2x⟩, ⟨g3, g3x⟩, g4, ⟨g5, g5x⟩, g6, gsq, goc, gwt, gsp, gfr⟩ := hG
  have hin : s % 8 < T.1 0 ∧ s / 8 < T.1 1 := Classical.byContradiction (fun z => h.1 ((gsq s hs).2 z))
  obtain ⟨z, hz, e⟩ := (gsq s hs).1 hin
  have h3 : z ≤ 3 := by
    rcases h.2 with h | h
    · rw [e] at h; have := (nI_ltI (by omega) (by decide)).mp h; omega
    · rw [e] at h; have := (nI_eq (by omega) (by decide)).mp h.1; omega
  have e3 : (s * 3 + f) / 3 = s := by omega
  have ne : ∀ k, 3 < k → k < 10 → ¬ T.2 0 s = nI k := fun k h1 h2 y => by rw [e] at y; have := (nI_eq (by omega) (by omega)).mp y; omega
  refine ⟨⟨by omega, by rw [e3]; exact hin.1, by rw [e3]; exact hin.2, by omega, by rw [e3]; exact ne 4 (by decide) (by decide), by rw [e3]; exact ne 5 (by decide) (by decide)⟩, ?_⟩
  unfold hm
  rw [e3]
  exact decide_eq_false (ne 6 (by decide) (by decide))
def wyF (T : Sd) (LW : LWt) (sq td j : Nat) (x : Int32) (f f' : Nat) : Nat := if f < T.1 2 then fitO T LW sq td j x 1 f f' (oc T j) else 0
def wyV (T : Sd) (LW : LWt) (sq td j : Nat) (x : Int32) (f f' : Nat) : Nat := bif nckB T sq j then wyF T LW sq td j x f f' else 0
theorem fitO_u {T : Sd} {LW : LWt} {sq td j u f f' : Nat} {x : Int32} : ∀ n, fitO T LW sq td j x u f f' n = u * fitO T LW sq td j x 1 f f' n := by
  intro n
  induction n with
  | zero => rfl
  | succ n ih =>
    show fitO T LW sq td j x u f f' n + (if n_land T LW (sq * 3 + f) (6 * j + n) x = nI (td * 3 + f') then sx T (6 * j + n) * u else 0) = u * (fitO T LW sq td j x 1 f f' n + (if n_land T LW (sq * 3 + f) (6 * j + n) x = nI (td * 3 + f') then sx T (6 * j + n) * 1 else 0))
    rw [ih, Nat.mul_add]
    split
    · rw [Nat.mul_one, Nat.mul_comm u (sx T (6 * j + n))]
    · rfl
theorem fit_cls {T : Sd} {LW : LWt} {sq td j : Nat} {x : Int32} {U : Nat → Nat} (hG : GS T) (hs : sq < 32) (hj : j < T.1 3) (hU : ∀ f, f < 3 → ¬ U f = 0 → lieOK T (sq * 3 + f)) {f f' : Nat} (hf : f < 3) : fitF T LW sq td j x U f' f = U f * wyV T LW sq td j x f f' := by
  unfold fitF wyV
  by_cases h0 : U f = 0
  · rw [if_pos (Or.inl h0), h0, Nat.zero_mul]
  · have hl := hU f hf h0
    have h2 : f < T.1 2 := by have := hl.2.2.2.1; omega
    have e3 : (sq * 3 + f) / 3 = sq := by omega
    cases hh : hm T (sq * 3 + f) with
    | true =>
      rw [if_pos (Or.inr (Or.inl rfl))]
      have : nckB T sq j = false := Bool.eq_false_iff.mpr (fun y => nck_home (j := j) hh (by rw [e3]; exact nckB_iff.mp y))
      rw [this]; rfl
    | false =>
      cases hk : mck T (sq * 3 + f) j with
      | true =>
        have : nckB T sq j = true := nckB_iff.mpr (by have := (nck_iff hG hl hh hj).mpr hk; rw [e3] at this; exact this)
        rw [this, if_neg (fun y => y.elim h0 (fun y => y.elim (fun y => nomatch y) (fun y => nomatch y)))]
        show _ = U f * wyF T LW sq td j x f f'
        unfold wyF
        rw [if_pos h2, fitO_u]
      | false =>
        have : nckB T sq j = false := Bool.eq_false_iff.mpr (fun y => by have := (nck_iff hG hl hh hj).mp (by rw [e3]; exact nckB_iff.mp y); rw [hk] at this; cases this)
        rw [this, if_pos (Or.inr (Or.inr rfl))]; rfl
theorem c_fill {h : am_H} {Q : Option Value → am_H → Prop} {q n : Nat} {f : Nat → Int32} {x : Int32} (hc : h.2.2 q = am_ints n f) (hn : n < 1000000) (h8 : 8 ≤ q) (qq : ∀ f', (∀ j, j < n → f' j = x) → Q none (am_up h q (am_ints n f'))) : AC am_P 0 0 293 [.ref q, .int x] h Q := by
  refine AC.of (ls := [_, _, _, _]) rfl ?_
  refine aw_c (v := nI 0) rfl (by decide) ?_
  refine aw_ist (ls' := [_, _, _, _]) rfl rfl ?_
  refine aw rfl rfl ?_
  refine aw_alen rfl hc rfl ?_
  refine aw_ist (ls' := [_, _, _, _]) rfl rfl ?_
  refine (show AW am_P 0 0 293 5 [some (.ref q), some (.int x), some (.int (nI 0)), some (.int (nI n))] [] (am_up h q (am_ints n f)) Q → _ from fun z => by rw [am_up_self hc] at z; exact z) ?_
  refine aw_loop (α := Nat → Int32) (ll := fun i y => [some (.ref q), some (.int x), some (.int (nI i)), some (.int (nI n))]) (hh := fun i y => am_up h q (am_ints n y)) (I := fun i y => ∀ j, j < i → y j = x) (N := n) (fun i y hi hI ih => ?_) (fun y hI => ?_) 0 f (Nat.zero_le _) (fun j hj => absurd hj (Nat.not_lt_zero _))
  · skip
    refine aw rfl rfl ?_
    refine aw rfl rfl ?_
    refine aw_igen rfl (fun c7 => by omega) (fun c7 => ?_)
    refine aw rfl rfl ?_
    refine aw rfl rfl ?_
    refine aw rfl rfl ?_
    refine aw_iastV (q := q) (k := i) rfl hg_eq rfl hi (by omega) h8 (by rw [am_up_up]) ?_
    refine aw_incn (c := 1) (ls' := [_, _, _, _]) rfl rfl (by decide) rfl ?_
    refine aw rfl rfl ?_
    exact ih (upd y i x) (fun j hj => by
      by_cases e : j = i
      · subst e; exact upd_at
      · exact (upd_ne e).trans (hI j (by omega)))
  · skip
    refine aw rfl rfl ?_
    refine aw rfl rfl ?_
    refine aw_igen rfl (fun c7 => ?_) (fun c7 => by omega)
    exact aw_vret rfl rfl (qq _ hI)
theorem c_X5_placeFor {h : am_H} {Q : Option Value → am_H → Prop} {a b c d : Nat} (q : Q (some (.int (nI ((a * 4 + b) * 9 + c * 3 + d)))) h) : AC am_P 0 0 75 [.int (nI a), .int (nI b), .int (nI c), .int (nI d)] h Q := by
  refine AC.of (ls := [_, _, _, _]) rfl ?_
  refine aw rfl rfl ?_
  refine aw_c (v := nI 4) rfl (by decide) ?_
  refine aw_muln rfl ?_
  refine aw rfl rfl ?_
  refine aw_addn rfl ?_
  refine aw_c (v := nI 9) rfl (by decide) ?_
  refine aw_muln rfl ?_
  refine aw rfl rfl ?_
  refine aw_c (v := nI 3) rfl (by decide) ?_
  refine aw_muln rfl ?_
  refine aw_addn rfl ?_
  refine aw rfl rfl ?_
  refine aw_addn rfl ?_
  exact aw_iret rfl rfl q
section C1
variable {g : am_H} {T0 T1 T : Sd} {u0 u1 : Ua} {K : Ck} {rf : Nat → Nat} {p : Nat} {S : Nat → Nat} {u td nt cc : Nat} {P Z : Nat → Nat → Nat} {TD : Nat → Nat} {hd : Nat → Bool} {tp : Nat → Int32} {pc : Int32} {W : Nat → Lw}
variable {no na : Nat} {lf : Nat → Nat}
theorem c_X5_weighKick {Q : Option Value → am_H → Prop} (hC : CS g T0 u0 T1 u1 K rf p T W S u P td TD hd Z nt tp pc cc) {i j sq tdi : Nat} (hi : i < 5) (hj : j < T.1 3) (hsq : sq < 32) (hck : n_ck T sq j) (htd : K.2.1 114 i = nI tdi) (ht32 : tdi < 32) (h0 : ∀ f f', f < 3 → f' < 3 → K.2.1 115 ((i * 4 + j) * 9 + f * 3 + f') = nI 0) (q : ∀ y u0 u1, (∀ f f', f < 3 → f' < 3 → y ((i * 4 + j) * 9 + f * 3 + f') = nI (wyF T (lwf W) sq tdi j (nI (i * T.1 5)) f f')) → (∀ n, (n < (i * 4 + j) * 9 ∨ (i * 4 + j) * 9 + 9 ≤ n) → y n = K.2.1 115 n) → Q none (ch g T0 u0 T1 u1 (K.1, va_up K.2.1 115 y, K.2.2) rf)) : AC am_P 4 100 74 [.ref 113, .ref p, .int (nI i), .int (nI sq), .int (nI j)] (ch g T0 u0 T1 u1 K rf) Q := by
  refine AC.of (ls := [_, _, _, _, _, _, _, _, _, _]) rfl ?_
  have hp := hC.cx.1
  have hG := hC.cx.2.1
  have hG0 := hG
  obtain ⟨⟨g0, g0x⟩, ⟨g1, g1x⟩, ⟨g2, g2x⟩, ⟨g3, g3x⟩, g4, ⟨g5, g5x⟩, g6, gsq, goc, gwt, gsp, gfr⟩ := hG
  obtain ⟨s0, s1, s2, s3, s4, s5, s6⟩ := hC.sc
  have hl96 := s0.1
  have hg := goc j hj
  have ho6 := hg.2.2.1
  refine aw rfl rfl ?_
  refine aw rfl rfl ?_
  refine aw_cv (d1 := 0) (L1 := 0) rfl rfl (sa hp).1 rfl rfl (by decide) (by decide) (Nat.le_of_ble_eq_true rfl) (c_X7_endOfWays (sa hp) (by omega) g3x (fun _ => ?_) (fun z => absurd z (by omega)))
  rw [hg.1, nI_add, Nat.mul_comm j 6]
  refine aw_ist (ls' := [_, _, _, _, _, _, _, _, _, _]) rfl rfl ?_
  refine aw_c (v := nI 0) rfl (by decide) ?_
  refine aw_ist (ls' := [_, _, _, _, _, _, _, _, _, _]) rfl rfl ?_
  refine (show AW am_P 4 100 74 11 [some (.ref 113), some (.ref p), some (.int (nI i)), some (.int (nI sq)), some (.int (nI j)), some (.int (nI (6 * j + oc T j))), some (.int (nI 0)), none, none, none] [] (ch g T0 u0 T1 u1 (K.1, va_up K.2.1 115 (K.2.1 115), K.2.2) rf) Q → _ from fun z => by rw [va_self0] at z; exact z) ?_
  refine aw_loop (α := ((Nat → Int32) × Ua × Ua) × Option Value × Option Value × Option Value) (ll := fun f y => [some (.ref 113), some (.ref p), some (.int (nI i)), some (.int (nI sq)), some (.int (nI j)), some (.int (nI (6 * j + oc T j))), some (.int (nI f)), y.2.1, y.2.2.1, y.2.2.2]) (hh := fun f y => (ch g T0 y.1.2.1 T1 y.1.2.2 (K.1, va_up K.2.1 115 y.1.1, K.2.2) rf)) (I := fun f y => (∀ f2 f', f2 < 3 → f' < 3 → y.1.1 ((i * 4 + j) * 9 + f2 * 3 + f') = nI (if f2 < f then fitO T (lwf W) sq tdi j (nI (i * T.1 5)) 1 f2 f' (oc T j) else 0)) ∧ (∀ n, (n < (i * 4 + j) * 9 ∨ (i * 4 + j) * 9 + 9 ≤ n) → y.1.1 n = K.2.1 115 n)) (N := T.1 2) (fun f y hf hIf ihf => ?_) (fun y hIf => ?_) 0 ((K.2.1 115, u0, u1), none, none, none) (Nat.zero_le _) ⟨fun f2 f' h1 h2 => (h0 f2 f' h1 h2).trans (congrArg nI (if_neg (Nat.not_lt_zero _)).symm), fun _ _ => rfl⟩
  · skip
    obtain ⟨⟨y, u0, u1⟩, l7, l8, l9⟩ := y
    obtain ⟨f1, f2⟩ := hIf
    dsimp only at f1 f2 ⊢
    have hlie := nck_lie (f := f) hG0 hsq hf hck
    refine aw rfl rfl ?_
    refine aw rfl rfl ?_
    refine aw_getf rfl (sa hp).1 rfl ?_
    refine aw_igen rfl (fun c17 => by omega) (fun c17 => ?_)
    refine aw rfl rfl ?_
    refine aw rfl rfl ?_
    refine aw_cv (d1 := 0) (L1 := 0) rfl rfl (sa hp).1 rfl rfl (by decide) (by decide) (Nat.le_of_ble_eq_true rfl) (c_X7_firstWay (sa hp) (by omega) g3x ?_)
    rw [if_neg (by omega), Nat.mul_comm j 6]
    refine aw_ist (ls' := [_, _, _, _, _, _, _, _, _, _]) rfl rfl ?_
    refine aw_loop (α := ((Nat → Int32) × Ua × Ua) × Option Value × Option Value) (ll := fun o y => [some (.ref 113), some (.ref p), some (.int (nI i)), some (.int (nI sq)), some (.int (nI j)), some (.int (nI (6 * j + oc T j))), some (.int (nI f)), some (.int (nI (6 * j + o))), y.2.1, y.2.2]) (hh := fun o y => (ch g T0 y.1.2.1 T1 y.1.2.2 (K.1, va_up K.2.1 115 y.1.1, K.2.2) rf)) (I := fun o y => (∀ f2 f', f2 < 3 → f' < 3 → y.1.1 ((i * 4 + j) * 9 + f2 * 3 + f') = nI (if f2 < f then fitO T (lwf W) sq tdi j (nI (i * T.1 5)) 1 f2 f' (oc T j) else if f2 = f then fitO T (lwf W) sq tdi j (nI (i * T.1 5)) 1 f2 f' o else 0)) ∧ (∀ n, (n < (i * 4 + j) * 9 ∨ (i * 4 + j) * 9 + 9 ≤ n) → y.1.1 n = K.2.1 115 n)) (N := oc T j) (fun o y ho hIo iho => ?_) (fun y hIo => ?_) 0 ((y, u0, u1), l8, l9) (Nat.zero_le _) ⟨fun f2 f' h1 h2 => (f1 f2 f' h1 h2).trans (congrArg nI (if_o rfl)), f2⟩
    · skip
      obtain ⟨⟨y, u0, u1⟩, l8, l9⟩ := y
      obtain ⟨o1, o2⟩ := hIo
      dsimp only at o1 o2 ⊢
      have hld := n_land_lie (LW := lwf W) (x := (nI (i * T.1 5))) hG0 hlie.1 (Or.inr ⟨j, o, hj, ho, rfl⟩)
      have hsx := (hg.2.2.2.2 o ho).1
      rcases hld with yl | ⟨m, hm9, yl⟩
      · skip
        refine aw rfl rfl ?_
        refine aw rfl rfl ?_
        refine aw_igen rfl (fun c32 => by omega) (fun c32 => ?_)
        refine aw rfl rfl ?_
        refine aw rfl rfl ?_
        refine aw rfl rfl ?_
        refine aw_cs (d1 := 0) (L1 := 0) rfl rfl (by decide) (by decide) (Nat.le_of_ble_eq_true rfl) (c_X10_lieOf ?_)
        refine aw rfl rfl ?_
        refine aw rfl rfl ?_
        refine aw rfl rfl ?_
        refine aw_getf rfl (sa hp).1 rfl ?_
        refine aw_muln rfl ?_
        refine aw_cv (d1 := 3) (L1 := 70) rfl rfl (sa hp).1 rfl rfl (by decide) (by decide) (Nat.le_of_ble_eq_true rfl) (c_land (LW := lwf W) (K := (K.1, va_up K.2.1 115 y, K.2.2)) hp hG0 hC.cx.2.2.1 (by omega) (Or.inr ⟨j, o, hj, ho, rfl⟩) (fun u0 u1 => ?_))
        · rw [yl]
          refine aw_ist (ls' := [_, _, _, _, _, _, _, _, _, _]) rfl rfl ?_
          refine aw rfl rfl ?_
          refine aw_c (v := -1) rfl (by decide) ?_
          refine aw_ieq rfl (fun _ => ?_) (fun c => absurd (by decide) c)
          refine aw_incn (c := 1) (ls' := [_, _, _, _, _, _, _, _, _, _]) rfl rfl (by decide) rfl ?_
          refine aw rfl rfl ?_
          refine iho ((y, u0, u1), some (.int (-1)), l9) ⟨fun f2 f' h1 h2 => (o1 f2 f' h1 h2).trans (congrArg nI ?_), o2⟩
          by_cases e1 : f2 < f
          · rw [if_pos e1, if_pos e1]
          · rw [if_neg e1, if_neg e1]
            by_cases e2 : f2 = f
            · rw [if_pos e2, if_pos e2]
              subst e2
              show fitO T (lwf W) sq tdi j (nI (i * T.1 5)) 1 f2 f' o = fitO T (lwf W) sq tdi j (nI (i * T.1 5)) 1 f2 f' o + (if n_land T (lwf W) (sq * 3 + f2) (6 * j + o) (nI (i * T.1 5)) = nI (tdi * 3 + f') then sx T (6 * j + o) * 1 else 0)
              rw [yl, if_neg (fun w => n_m1 (by omega) w.symm)]
              rfl
            · rw [if_neg e2, if_neg e2]
      · skip
        have hm96 := hm9.1
        refine aw rfl rfl ?_
        refine aw rfl rfl ?_
        refine aw_igen rfl (fun c32 => by omega) (fun c32 => ?_)
        refine aw rfl rfl ?_
        refine aw rfl rfl ?_
        refine aw rfl rfl ?_
        refine aw_cs (d1 := 0) (L1 := 0) rfl rfl (by decide) (by decide) (Nat.le_of_ble_eq_true rfl) (c_X10_lieOf ?_)
        refine aw rfl rfl ?_
        refine aw rfl rfl ?_
        refine aw rfl rfl ?_
        refine aw_getf rfl (sa hp).1 rfl ?_
        refine aw_muln rfl ?_
        refine aw_cv (d1 := 3) (L1 := 70) rfl rfl (sa hp).1 rfl rfl (by decide) (by decide) (Nat.le_of_ble_eq_true rfl) (c_land (LW := lwf W) (K := (K.1, va_up K.2.1 115 y, K.2.2)) hp hG0 hC.cx.2.2.1 (by omega) (Or.inr ⟨j, o, hj, ho, rfl⟩) (fun u0 u1 => ?_))
        rw [yl]
        refine aw_ist (ls' := [_, _, _, _, _, _, _, _, _, _]) rfl rfl ?_
        refine aw rfl rfl ?_
        refine aw_c (v := -1) rfl (by decide) ?_
        refine aw_ieqm rfl ?_
        refine aw rfl rfl ?_
        refine aw_c (v := nI 3) rfl (by decide) ?_
        refine aw_divn rfl (by omega) (by omega) (by omega) ?_
        refine aw rfl rfl ?_
        refine aw_getf rfl cg_113 rfl ?_
        refine aw rfl rfl ?_
        refine aw_ialdE rfl cg_114 rfl (by omega) (by decide) htd ?_
        refine aw_inen rfl (fun c71 => ?_) (fun c71 => ?_)
        · refine aw_incn (c := 1) (ls' := [_, _, _, _, _, _, _, _, _, _]) rfl rfl (by decide) rfl ?_
          refine aw rfl rfl ?_
          refine iho ((y, u0, u1), some (.int (nI m)), l9) ⟨fun f2 f' h1 h2 => (o1 f2 f' h1 h2).trans (congrArg nI ?_), o2⟩
          by_cases e1 : f2 < f
          · rw [if_pos e1, if_pos e1]
          · rw [if_neg e1, if_neg e1]
            by_cases e2 : f2 = f
            · rw [if_pos e2, if_pos e2]
              subst e2
              show fitO T (lwf W) sq tdi j (nI (i * T.1 5)) 1 f2 f' o = fitO T (lwf W) sq tdi j (nI (i * T.1 5)) 1 f2 f' o + (if n_land T (lwf W) (sq * 3 + f2) (6 * j + o) (nI (i * T.1 5)) = nI (tdi * 3 + f') then sx T (6 * j + o) * 1 else 0)
              rw [yl, if_neg (fun w => c71 (by have := (nI_eq (by omega) (by omega)).mp w; omega))]
              rfl
            · rw [if_neg e2, if_neg e2]
        · refine aw rfl rfl ?_
          refine aw rfl rfl ?_
          refine aw rfl rfl ?_
          refine aw rfl rfl ?_
          refine aw_c (v := nI 3) rfl (by decide) ?_
          refine aw_remn rfl (by omega) (by omega) (by omega) ?_
          refine aw_cs (d1 := 0) (L1 := 0) rfl rfl (by decide) (by decide) (Nat.le_of_ble_eq_true rfl) (c_X5_placeFor ?_)
          refine aw_ist (ls' := [_, _, _, _, _, _, _, _, _, _]) rfl rfl ?_
          refine aw rfl rfl ?_
          refine aw_getf rfl cg_113 rfl ?_
          refine aw rfl rfl ?_
          refine aw rfl rfl ?_
          refine aw_ialdE rfl cg_115 rfl (by omega) (by decide) ((o1 f (m % 3) (by omega) (by omega)).trans (congrArg nI ((if_neg (Nat.lt_irrefl _)).trans (if_pos rfl)))) ?_
          refine aw rfl rfl ?_
          refine aw rfl rfl ?_
          refine aw_cv (d1 := 0) (L1 := 0) rfl rfl (sa hp).1 rfl rfl (by decide) (by decide) (Nat.le_of_ble_eq_true rfl) (c_X7_sixthsOf (sa hp) (by omega) ?_)
          rw [hsx]
          refine aw_addn rfl ?_
          refine aw_iastU rfl cg_115 rfl (by omega) (by decide) (by decide) cu_115 ?_
          refine aw_incn (c := 1) (ls' := [_, _, _, _, _, _, _, _, _, _]) rfl rfl (by decide) rfl ?_
          refine aw rfl rfl ?_
          refine iho ((upd y ((i * 4 + j) * 9 + f * 3 + (m % 3)) (nI (fitO T (lwf W) sq tdi j (nI (i * T.1 5)) 1 f (m % 3) o + sx T (6 * j + o))), u0, u1), some (.int (nI m)), some (.int (nI ((i * 4 + j) * 9 + f * 3 + (m % 3))))) ⟨fun f2 f' h1 h2 => ?_, fun n hn => (upd_ne (by omega)).trans (o2 n hn)⟩
          by_cases e3 : f2 = f ∧ f' = m % 3
          · obtain ⟨e4, e5⟩ := e3
            subst e4 e5
            refine upd_at.trans (congrArg nI ?_)
            rw [if_neg (Nat.lt_irrefl _), if_pos rfl]
            show _ = fitO T (lwf W) sq tdi j (nI (i * T.1 5)) 1 f2 (m % 3) o + (if n_land T (lwf W) (sq * 3 + f2) (6 * j + o) (nI (i * T.1 5)) = nI (tdi * 3 + m % 3) then sx T (6 * j + o) * 1 else 0)
            rw [yl, if_pos (congrArg nI (by omega)), Nat.mul_one]
          · refine (upd_ne (by omega)).trans ((o1 f2 f' h1 h2).trans (congrArg nI ?_))
            by_cases e1 : f2 < f
            · rw [if_pos e1, if_pos e1]
            · rw [if_neg e1, if_neg e1]
              by_cases e2 : f2 = f
              · rw [if_pos e2, if_pos e2]
                subst e2
                show fitO T (lwf W) sq tdi j (nI (i * T.1 5)) 1 f2 f' o = fitO T (lwf W) sq tdi j (nI (i * T.1 5)) 1 f2 f' o + (if n_land T (lwf W) (sq * 3 + f2) (6 * j + o) (nI (i * T.1 5)) = nI (tdi * 3 + f') then sx T (6 * j + o) * 1 else 0)
                rw [yl, if_neg (fun w => e3 ⟨rfl, by have := (nI_eq (by omega) (by omega)).mp w; omega⟩)]
                rfl
              · rw [if_neg e2, if_neg e2]
    · skip
      obtain ⟨⟨y, u0, u1⟩, l8, l9⟩ := y
      obtain ⟨o1, o2⟩ := hIo
      dsimp only at o1 o2 ⊢
      refine aw rfl rfl ?_
      refine aw rfl rfl ?_
      refine aw_igen rfl (fun c32 => ?_) (fun c32 => by omega)
      refine aw_incn (c := 1) (ls' := [_, _, _, _, _, _, _, _, _, _]) rfl rfl (by decide) rfl ?_
      refine aw rfl rfl ?_
      refine ihf ((y, u0, u1), _, _, _) ⟨fun f2 f' h1 h2 => (o1 f2 f' h1 h2).trans (congrArg nI ?_), o2⟩
      by_cases e1 : f2 < f
      · rw [if_pos e1, if_pos (by omega)]
      · rw [if_neg e1]
        by_cases e2 : f2 = f
        · rw [if_pos e2, if_pos (by omega)]
        · rw [if_neg e2, if_neg (by omega)]
  · skip
    obtain ⟨⟨y, u0, u1⟩, l7, l8, l9⟩ := y
    obtain ⟨f1, f2⟩ := hIf
    dsimp only at f1 f2 ⊢
    refine aw rfl rfl ?_
    refine aw rfl rfl ?_
    refine aw_getf rfl (sa hp).1 rfl ?_
    refine aw_igen rfl (fun c17 => ?_) (fun c17 => by omega)
    exact aw_vret rfl rfl (q y u0 u1 f1 f2)
end C1
