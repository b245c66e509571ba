/-! ===== the class: the race (2): who can be where ===== -/
theorem c_X13_fill {h : am_H} {Q : Option Value → am_H → Prop} {q n : Nat} {f : Nat → Int32} {x : Int32} (hc : h.2.2 q = .inr (0, n, .inl f)) (hn : n < 100000) (h8 : 8 ≤ q) (k : ∀ y : Nat → Int32, (∀ i, i < n → y i = x) → Q none (am_up h q (.inr (0, n, .inl y)))) : AC am_P 0 0 293 [.ref q, .int x] h Q := by
  refine AC.of (ls := [_, _, _, _]) rfl ?_
  refine aw_c (v := nI 0) rfl (by decide) ?_
  refine aw_ist (ls' := [_, _, _, _]) rfl rfl ?_
  refine aw rfl rfl ?_
  refine aw_alen rfl hc rfl ?_
  refine aw_ist (ls' := [_, _, _, _]) rfl rfl ?_
  refine (show AW am_P 0 0 293 5 [some (.ref q), some (.int x), some (.int (nI 0)), some (.int (nI n))] [] (am_up h q (.inr (0, n, .inl f))) Q → _ from fun z => by rw [am_up_self hc] at z; exact z) ?_
  refine aw_loop (α := Nat → Int32) (ll := fun i y => [some (.ref q), some (.int x), some (.int (nI i)), some (.int (nI n))]) (hh := fun i y => am_up h q (.inr (0, n, .inl y))) (I := fun i y => ∀ z, z < i → y z = x) (N := n) (fun i y hi hI ih => ?_) (fun y hI => ?_) 0 f (Nat.zero_le _) (fun z hz => absurd hz (Nat.not_lt_zero _))
  · skip
    refine aw rfl rfl ?_
    refine aw rfl rfl ?_
    refine aw_igen rfl (fun c7 => by omega) (fun c7 => ?_)
    refine aw rfl rfl ?_
    refine aw rfl rfl ?_
    refine aw rfl rfl ?_
    refine aw_iastV (q := q) (k := i) (n := n) rfl vu_at rfl hi (by omega) h8 am_up_up ?_
    refine aw_incn (c := 1) (ls' := [_, _, _, _]) rfl rfl (by decide) rfl ?_
    refine aw rfl rfl ?_
    exact ih (upd y i x) (fun z hz => by
      by_cases e : z = i
      · subst e; exact upd_at
      · exact (upd_ne e).trans (hI z (by omega)))
  · skip
    refine aw rfl rfl ?_
    refine aw rfl rfl ?_
    refine aw_igen rfl (fun c7 => ?_) (fun c7 => by omega)
    exact aw_vret rfl rfl (k y hI)
/-- smaller nowhere below c -/
def SD (c : Nat) (s s' : Nat → Nat) : Prop := ∀ m, s' m ≤ s m ∧ (s' m < c → s' m = s m)
theorem SD.rf {c : Nat} {s : Nat → Nat} : SD c s s := fun _ => ⟨Nat.le_refl _, fun _ => rfl⟩
theorem SD.tr {c : Nat} {s s1 s2 : Nat → Nat} (h : SD c s s1) (h1 : SD c s1 s2) : SD c s s2 := fun m => ⟨Nat.le_trans (h1 m).1 (h m).1, fun z => by
  have e := (h1 m).2 z
  exact e.trans ((h m).2 (by omega))⟩
theorem SD.lt {c j : Nat} {s s' : Nat → Nat} (h : SD c s s') (hj : j < c) {m : Nat} : s' m ≤ j ↔ s m ≤ j := ⟨fun z => by have := (h m).2 (by omega); omega, fun z => Nat.le_trans (h m).1 z⟩
def smin (s : Nat → Nat) (m c : Nat) : Nat → Nat := fun n => if n = m then (if c < s m then c else s m) else s n
theorem smin_SD {c m : Nat} {s : Nat → Nat} : SD c s (smin s m c) := fun n => by
  unfold smin
  by_cases e : n = m
  · subst e
    rw [if_pos rfl]
    constructor
    · split <;> omega
    · split <;> omega
  · rw [if_neg e]
    exact ⟨Nat.le_refl _, fun _ => rfl⟩
theorem smin_at {c m : Nat} {s : Nat → Nat} : smin s m c m ≤ c := by
  unfold smin
  rw [if_pos rfl]
  split <;> omega
def AR (y : Nat → Int32) (s : Nat → Nat) : Prop := ∀ m, m < 96 → y m = nI (s m) ∧ s m ≤ 3
theorem AR.up {y : Nat → Int32} {s : Nat → Nat} {m c : Nat} (h : AR y s) (hm : m < 96) (hc : c ≤ 3) : AR (upd y m (if nI c < nI (s m) then nI c else nI (s m))) (smin s m c) := fun n hn => by
  have h3 := (h m hm).2
  unfold smin
  by_cases e : n = m
  · subst e
    rw [upd_at, if_pos rfl]
    rw [n_min (by omega) (by omega)]
    exact ⟨rfl, by split <;> omega⟩
  · rw [upd_ne e, if_neg e]
    exact h n hn
def raP (q : Nat) : Prop := q = 111 ∨ q = 112
/-- all that an action can bring it to has been seen -/
def CLa (T : Sd) (LW : LWt) (s : Nat → Nat) (l a c : Nat) (x : Int32) : Prop := ∀ way, vwA T l a way → ∀ m, m < 96 → n_land T LW l way x = nI m → s m ≤ c
theorem CLa.sd {T : Sd} {LW : LWt} {s s' : Nat → Nat} {l a c d : Nat} {x : Int32} (h : CLa T LW s l a c x) (hs : SD d s s') : CLa T LW s' l a c x := fun way hw m hm e => Nat.le_trans (hs m).1 (h way hw m hm e)
section C1
variable {g : am_H} {T0 T1 T : Sd} {u0 u1 : Ua} {K : Ck} {rf : Nat → Nat} {p : Nat} {LW : LWt} {S : Nat → Nat} {u td nt cc : Nat} {P Z : Nat → Nat → Nat} {TD : Nat → Nat} {hd : Nat → Bool} {tp : Nat → Int32} {pc : Int32}
variable {no na : Nat} {lf : Nat → Nat}
theorem cg_ra {q : Nat} (hq : raP q) : (ch g T0 u0 T1 u1 K rf).2.2 q = .inr (0, 96, .inl (K.2.1 q)) := by
  rcases hq with rfl | rfl
  · exact cg_111
  · exact cg_112
theorem cu_ra {q : Nat} {f : Nat → Int32} (hq : raP q) : am_up (ch g T0 u0 T1 u1 K rf) q (.inr (0, 96, .inl f)) = ch g T0 u0 T1 u1 (K.1, va_up K.2.1 q f, K.2.2) rf := by
  rcases hq with rfl | rfl
  · exact cu_111
  · exact cu_112
theorem ra_8 {q : Nat} (hq : raP q) : 8 ≤ q := by rcases hq with rfl | rfl <;> decide
theorem c_X3_reachBy {Q : Option Value → am_H → Prop} (hX : CX p T LW T0 T1 g rf) {x : Int32} (hR : RG T LW g rf x) {l a c q9 : Nat} (hq9 : raP q9) {s : Nat → Nat} (hs : AR (K.2.1 q9) s) (hl : lieOK T l) (hh : hm T l = false) (ha : a ≤ T.1 3) (hc : c ≤ 3) (q : ∀ y s', AR y s' → SD c s s' → CLa T LW s' l a c x → Q none (ch g T0 u0 T1 u1 (K.1, va_up K.2.1 q9 y, K.2.2) rf)) : AC am_P 2 44 36 [.ref 108, .int (nI a), .int (nI l), .ref q9, .int (nI c)] (ch g T0 u0 T1 u1 K rf) Q := by
  refine AC.of (ls := [_, _, _, _, _, _, _, _]) rfl ?_
  obtain ⟨hp, hG, hW, hU, h8t, hr0, hr3, hr4, hr5, hsix, hf6, hf7, hf67⟩ := hX
  have hG0 := hG
  obtain ⟨⟨g0, g0x⟩, ⟨g1, g1x⟩, ⟨g2, g2x⟩, ⟨g3, g3x⟩, g4, ⟨g5, g5x⟩, g6, gsq, goc, gwt, gsp, gfr⟩ := hG
  have hl96 := hl.1
  obtain ⟨r8, f, hf, hrw⟩ := hR
  by_cases e3 : a = T.1 3
  · skip
    refine aw rfl rfl ?_
    refine aw_getfE rfl cg_108 rfl (congrArg Value.ref hr5) ?_
    refine aw rfl rfl ?_
    refine aw_c (v := nI 3) rfl (by decide) ?_
    refine aw_divn rfl (by omega) (by omega) (by omega) ?_
    refine aw rfl rfl ?_
    refine aw_cv (d1 := 1) (L1 := 22) rfl rfl (sa hp).1 rfl rfl (by decide) (by decide) (Nat.le_of_ble_eq_true rfl) (c_X7_canDoFrom (sa hp) (by omega) ha g3x (fun hck => ?_) (fun h3 => absurd h3 (by omega)))
    · refine aw_eq rfl (fun c => absurd c (by decide)) (fun _ => ?_)
      refine aw rfl rfl ?_
      refine aw_getfE rfl cg_108 rfl (congrArg Value.ref hr5) ?_
      refine aw rfl rfl ?_
      refine aw_cv (d1 := 0) (L1 := 0) rfl rfl (sa hp).1 rfl rfl (by decide) (by decide) (Nat.le_of_ble_eq_true rfl) (c_X7_endOfWays (sa hp) ha g3x (fun z => absurd z (by omega)) (fun _ => ?_))
      skip
      refine aw rfl rfl ?_
      refine aw_ist (ls' := [_, _, _, _, _, _, _, _]) rfl rfl ?_
      refine aw rfl rfl ?_
      refine aw_getfE rfl cg_108 rfl (congrArg Value.ref hr5) ?_
      refine aw rfl rfl ?_
      refine aw_cv (d1 := 0) (L1 := 0) rfl rfl (sa hp).1 rfl rfl (by decide) (by decide) (Nat.le_of_ble_eq_true rfl) (c_X7_firstWay (sa hp) ha g3x ?_)
      rw [if_pos e3]
      refine aw_ist (ls' := [_, _, _, _, _, _, _, _]) rfl rfl ?_
      refine (show AW am_P 2 44 36 38 [some (.ref 108), some (.int (nI a)), some (.int (nI l)), some (.ref q9), some (.int (nI c)), some (.int (nI (24 + 1))), some (.int (nI (24))), none] [] (ch g T0 u0 T1 u1 (K.1, va_up K.2.1 q9 (K.2.1 q9), K.2.2) rf) Q → _ from fun z => by rw [va_self0] at z; exact z) ?_
      refine aw_loop (α := (Nat → Int32) × (Nat → Nat) × Option Value) (ll := fun i y => [some (.ref 108), some (.int (nI a)), some (.int (nI l)), some (.ref q9), some (.int (nI c)), some (.int (nI (24 + 1))), some (.int (nI (24 + i))), y.2.2]) (hh := fun i y => (ch g T0 u0 T1 u1 (K.1, va_up K.2.1 q9 y.1, K.2.2) rf)) (I := fun i y => AR y.1 y.2.1 ∧ SD c s y.2.1 ∧ ∀ z, z < i → ∀ m, m < 96 → n_land T LW l (24 + z) x = nI m → y.2.1 m ≤ c) (N := 1) (fun i y hi hI ih => ?_) (fun y hI => ?_) 0 (K.2.1 q9, s, none) (Nat.zero_le _) ⟨hs, SD.rf, fun z hz => absurd hz (Nat.not_lt_zero _)⟩
      · skip
        obtain ⟨y, s1, l7⟩ := y
        obtain ⟨hI1, hI2, hI3⟩ := hI
        dsimp only at hI1 hI2 hI3 ⊢
        have hvA : vwA T l a (24 + i) := Or.inl ⟨e3, by omega⟩
        have hvw : vw T l (24 + i) := ⟨a, hvA⟩
        have hfl := hrw l hl hh _ hvw
        have hld := n_land_lie (LW := LW) (x := x) hG0 hl (Or.inl (show 24 + i = 24 by omega))
        rcases hld with hz | ⟨m, hmm, hz⟩
        · skip
          refine aw rfl rfl ?_
          refine aw rfl rfl ?_
          refine aw_igen rfl (fun c42 => by omega) (fun c42 => ?_)
          refine aw rfl rfl ?_
          refine aw_getf rfl cg_108 rfl ?_
          refine aw rfl rfl ?_
          refine aw rfl rfl ?_
          refine aw_cv (d1 := 0) (L1 := 0) rfl rfl cg_100 rfl rfl (by decide) (by decide) (Nat.le_of_ble_eq_true rfl) (c_X8_landing (K := (K.1, va_up K.2.1 q9 y, K.2.2)) rfl r8 hf hl96 (by omega) ?_)
          · rw [hfl, hz]
            refine aw_ist (ls' := [_, _, _, _, _, _, _, _]) rfl rfl ?_
            refine aw rfl rfl ?_
            refine aw_lt rfl (fun _ => ?_) (fun c => absurd (by decide) c)
            refine aw_incn (c := 1) (ls' := [_, _, _, _, _, _, _, _]) rfl rfl (by decide) rfl ?_
            refine aw rfl rfl ?_
            exact ih (y, s1, some (.int (-1))) ⟨hI1, hI2, fun z h1 m h2 h4 => by
              by_cases e : z = i
              · subst e; exact absurd (hz.symm.trans h4) (fun y9 => n_m1 (n := m) (by omega) y9.symm)
              · exact hI3 z (by omega) m h2 h4⟩
        · have hm96 := hmm.1
          refine aw rfl rfl ?_
          refine aw rfl rfl ?_
          refine aw_igen rfl (fun c42 => by omega) (fun c42 => ?_)
          refine aw rfl rfl ?_
          refine aw_getf rfl cg_108 rfl ?_
          refine aw rfl rfl ?_
          refine aw rfl rfl ?_
          refine aw_cv (d1 := 0) (L1 := 0) rfl rfl cg_100 rfl rfl (by decide) (by decide) (Nat.le_of_ble_eq_true rfl) (c_X8_landing (K := (K.1, va_up K.2.1 q9 y, K.2.2)) rfl r8 hf hl96 (by omega) ?_)
          rw [hfl, hz]
          refine aw_ist (ls' := [_, _, _, _, _, _, _, _]) rfl rfl ?_
          refine aw rfl rfl ?_
          refine aw_ltn rfl ?_
          refine aw rfl rfl ?_
          refine aw rfl rfl ?_
          refine aw_alen rfl (cg_ra hq9) rfl ?_
          refine aw_igen rfl (fun c66 => by omega) (fun c66 => ?_)
          refine aw rfl rfl ?_
          refine aw rfl rfl ?_
          refine aw rfl rfl ?_
          refine aw rfl rfl ?_
          refine aw_ialdE rfl (cg_ra hq9) rfl (by omega) (by decide) ((congrFun (vu_at (f := K.2.1)) m).trans (hI1 m hm96).1) ?_
          refine aw rfl rfl ?_
          refine aw rfl rfl ?_
          refine aw_iastV (q := q9) (k := m) rfl (cg_ra hq9) rfl (by omega) (by decide) (ra_8 hq9) (cu_ra hq9) ?_
          refine aw_incn (c := 1) (ls' := [_, _, _, _, _, _, _, _]) rfl rfl (by decide) rfl ?_
          refine aw rfl rfl ?_
          rw [va_twice (h := fun f9 => upd f9 m (if nI c < nI (s1 m) then nI c else nI (s1 m)))]
          exact ih (_, smin s1 m c, some (.int (nI m))) ⟨hI1.up hm96 hc, hI2.tr smin_SD, fun z h1 m9 h2 h4 => by
            by_cases e : z = i
            · subst e
              have e9 : m = m9 := (nI_eq (by omega) (by omega)).mp (hz.symm.trans h4)
              subst e9
              exact smin_at
            · exact Nat.le_trans (smin_SD m9).1 (hI3 z (by omega) m9 h2 h4)⟩
      · skip
        obtain ⟨y, s1, l7⟩ := y
        obtain ⟨hI1, hI2, hI3⟩ := hI
        dsimp only at hI1 hI2 hI3 ⊢
        refine aw rfl rfl ?_
        refine aw rfl rfl ?_
        refine aw_igen rfl (fun c42 => ?_) (fun c42 => by omega)
        exact aw_vret rfl rfl (q y s1 hI1 hI2 (fun way hw m h2 h4 => by
          rcases hw with ⟨h5, h6⟩ | ⟨h5, h6, o, h7, h8⟩
          · subst h6; exact hI3 0 (by decide) m h2 h4
          · exact absurd h5 (by omega)))
  · have h3 : a < T.1 3 := by omega
    have hg := goc a h3
    have ho6 := hg.2.2.1
    refine aw rfl rfl ?_
    refine aw_getfE rfl cg_108 rfl (congrArg Value.ref hr5) ?_
    refine aw rfl rfl ?_
    refine aw_c (v := nI 3) rfl (by decide) ?_
    refine aw_divn rfl (by omega) (by omega) (by omega) ?_
    refine aw rfl rfl ?_
    refine aw_cv (d1 := 1) (L1 := 22) rfl rfl (sa hp).1 rfl rfl (by decide) (by decide) (Nat.le_of_ble_eq_true rfl) (c_X7_canDoFrom (sa hp) (by omega) ha g3x (fun hck => ?_) (fun _ hck => ?_))
    · have hmc := (nck_iff hG0 hl hh h3).mp (hck.resolve_left e3)
      refine aw_eq rfl (fun c => absurd c (by decide)) (fun _ => ?_)
      refine aw rfl rfl ?_
      refine aw_getfE rfl cg_108 rfl (congrArg Value.ref hr5) ?_
      refine aw rfl rfl ?_
      refine aw_cv (d1 := 0) (L1 := 0) rfl rfl (sa hp).1 rfl rfl (by decide) (by decide) (Nat.le_of_ble_eq_true rfl) (c_X7_endOfWays (sa hp) ha g3x (fun _ => ?_) (fun z => absurd z (by omega)))
      rw [hg.1, nI_add, Nat.mul_comm a 6]
      refine aw rfl rfl ?_
      refine aw_ist (ls' := [_, _, _, _, _, _, _, _]) rfl rfl ?_
      refine aw rfl rfl ?_
      refine aw_getfE rfl cg_108 rfl (congrArg Value.ref hr5) ?_
      refine aw rfl rfl ?_
      refine aw_cv (d1 := 0) (L1 := 0) rfl rfl (sa hp).1 rfl rfl (by decide) (by decide) (Nat.le_of_ble_eq_true rfl) (c_X7_firstWay (sa hp) ha g3x ?_)
      rw [if_neg e3, Nat.mul_comm a 6]
      refine aw_ist (ls' := [_, _, _, _, _, _, _, _]) rfl rfl ?_
      refine (show AW am_P 2 44 36 38 [some (.ref 108), some (.int (nI a)), some (.int (nI l)), some (.ref q9), some (.int (nI c)), some (.int (nI (6 * a + (oc T a)))), some (.int (nI (6 * a))), none] [] (ch g T0 u0 T1 u1 (K.1, va_up K.2.1 q9 (K.2.1 q9), K.2.2) rf) Q → _ from fun z => by rw [va_self0] at z; exact z) ?_
      refine aw_loop (α := (Nat → Int32) × (Nat → Nat) × Option Value) (ll := fun i y => [some (.ref 108), some (.int (nI a)), some (.int (nI l)), some (.ref q9), some (.int (nI c)), some (.int (nI (6 * a + (oc T a)))), some (.int (nI (6 * a + i))), y.2.2]) (hh := fun i y => (ch g T0 u0 T1 u1 (K.1, va_up K.2.1 q9 y.1, K.2.2) rf)) (I := fun i y => AR y.1 y.2.1 ∧ SD c s y.2.1 ∧ ∀ z, z < i → ∀ m, m < 96 → n_land T LW l (6 * a + z) x = nI m → y.2.1 m ≤ c) (N := (oc T a)) (fun i y hi hI ih => ?_) (fun y hI => ?_) 0 (K.2.1 q9, s, none) (Nat.zero_le _) ⟨hs, SD.rf, fun z hz => absurd hz (Nat.not_lt_zero _)⟩
      · skip
        obtain ⟨y, s1, l7⟩ := y
        obtain ⟨hI1, hI2, hI3⟩ := hI
        dsimp only at hI1 hI2 hI3 ⊢
        have hvA : vwA T l a (6 * a + i) := Or.inr ⟨h3, hmc, i, hi, rfl⟩
        have hvw : vw T l (6 * a + i) := ⟨a, hvA⟩
        have hfl := hrw l hl hh _ hvw
        have hld := n_land_lie (LW := LW) (x := x) hG0 hl (Or.inr ⟨a, i, h3, hi, rfl⟩)
        rcases hld with hz | ⟨m, hmm, hz⟩
        · skip
          refine aw rfl rfl ?_
          refine aw rfl rfl ?_
          refine aw_igen rfl (fun c42 => by omega) (fun c42 => ?_)
          refine aw rfl rfl ?_
          refine aw_getf rfl cg_108 rfl ?_
          refine aw rfl rfl ?_
          refine aw rfl rfl ?_
          refine aw_cv (d1 := 0) (L1 := 0) rfl rfl cg_100 rfl rfl (by decide) (by decide) (Nat.le_of_ble_eq_true rfl) (c_X8_landing (K := (K.1, va_up K.2.1 q9 y, K.2.2)) rfl r8 hf hl96 (by omega) ?_)
          · rw [hfl, hz]
            refine aw_ist (ls' := [_, _, _, _, _, _, _, _]) rfl rfl ?_
            refine aw rfl rfl ?_
            refine aw_lt rfl (fun _ => ?_) (fun c => absurd (by decide) c)
            refine aw_incn (c := 1) (ls' := [_, _, _, _, _, _, _, _]) rfl rfl (by decide) rfl ?_
            refine aw rfl rfl ?_
            exact ih (y, s1, some (.int (-1))) ⟨hI1, hI2, fun z h1 m h2 h4 => by
              by_cases e : z = i
              · subst e; exact absurd (hz.symm.trans h4) (fun y9 => n_m1 (n := m) (by omega) y9.symm)
              · exact hI3 z (by omega) m h2 h4⟩
        · have hm96 := hmm.1
          refine aw rfl rfl ?_
          refine aw rfl rfl ?_
          refine aw_igen rfl (fun c42 => by omega) (fun c42 => ?_)
          refine aw rfl rfl ?_
          refine aw_getf rfl cg_108 rfl ?_
          refine aw rfl rfl ?_
          refine aw rfl rfl ?_
          refine aw_cv (d1 := 0) (L1 := 0) rfl rfl cg_100 rfl rfl (by decide) (by decide) (Nat.le_of_ble_eq_true rfl) (c_X8_landing (K := (K.1, va_up K.2.1 q9 y, K.2.2)) rfl r8 hf hl96 (by omega) ?_)
          rw [hfl, hz]
          refine aw_ist (ls' := [_, _, _, _, _, _, _, _]) rfl rfl ?_
          refine aw rfl rfl ?_
          refine aw_ltn rfl ?_
          refine aw rfl rfl ?_
          refine aw rfl rfl ?_
          refine aw_alen rfl (cg_ra hq9) rfl ?_
          refine aw_igen rfl (fun c66 => by omega) (fun c66 => ?_)
          refine aw rfl rfl ?_
          refine aw rfl rfl ?_
          refine aw rfl rfl ?_
          refine aw rfl rfl ?_
          refine aw_ialdE rfl (cg_ra hq9) rfl (by omega) (by decide) ((congrFun (vu_at (f := K.2.1)) m).trans (hI1 m hm96).1) ?_
          refine aw rfl rfl ?_
          refine aw rfl rfl ?_
          refine aw_iastV (q := q9) (k := m) rfl (cg_ra hq9) rfl (by omega) (by decide) (ra_8 hq9) (cu_ra hq9) ?_
          refine aw_incn (c := 1) (ls' := [_, _, _, _, _, _, _, _]) rfl rfl (by decide) rfl ?_
          refine aw rfl rfl ?_
          rw [va_twice (h := fun f9 => upd f9 m (if nI c < nI (s1 m) then nI c else nI (s1 m)))]
          exact ih (_, smin s1 m c, some (.int (nI m))) ⟨hI1.up hm96 hc, hI2.tr smin_SD, fun z h1 m9 h2 h4 => by
            by_cases e : z = i
            · subst e
              have e9 : m = m9 := (nI_eq (by omega) (by omega)).mp (hz.symm.trans h4)
              subst e9
              exact smin_at
            · exact Nat.le_trans (smin_SD m9).1 (hI3 z (by omega) m9 h2 h4)⟩
      · skip
        obtain ⟨y, s1, l7⟩ := y
        obtain ⟨hI1, hI2, hI3⟩ := hI
        dsimp only at hI1 hI2 hI3 ⊢
        refine aw rfl rfl ?_
        refine aw rfl rfl ?_
        refine aw_igen rfl (fun c42 => ?_) (fun c42 => by omega)
        exact aw_vret rfl rfl (q y s1 hI1 hI2 (fun way hw m h2 h4 => by
          rcases hw with ⟨h5, h6⟩ | ⟨h5, h6, o, h7, h8⟩
          · exact absurd h5 e3
          · subst h8; exact hI3 o h7 m h2 h4))
    · refine aw_eq rfl (fun _ => ?_) (fun c => absurd (by decide) c)
      refine aw_c (v := nI 0) rfl (by decide) ?_
      refine aw_ist (ls' := [_, _, _, _, _, _, _, _]) rfl rfl ?_
      refine aw rfl rfl ?_
      refine aw_getfE rfl cg_108 rfl (congrArg Value.ref hr5) ?_
      refine aw rfl rfl ?_
      refine aw_cv (d1 := 0) (L1 := 0) rfl rfl (sa hp).1 rfl rfl (by decide) (by decide) (Nat.le_of_ble_eq_true rfl) (c_X7_firstWay (sa hp) ha g3x ?_)
      rw [if_neg e3, Nat.mul_comm a 6]
      refine aw_ist (ls' := [_, _, _, _, _, _, _, _]) rfl rfl ?_
      refine aw rfl rfl ?_
      refine aw rfl rfl ?_
      refine aw_igen rfl (fun c42 => ?_) (fun c42 => by omega)
      exact aw_vret rfl rfl (by have h9 := q (K.2.1 q9) s hs SD.rf (fun way hw m h2 h4 => by
            rcases hw with ⟨h5, h6⟩ | ⟨h5, h6, o, h7, h8⟩
            · exact absurd h5 e3
            · exact absurd ((nck_iff hG0 hl hh h3).mpr h6) hck); rw [va_self0] at h9; exact h9)
end C1
