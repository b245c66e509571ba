theorem va_two {α : Type} {f : Nat → α} {i : Nat} {x y : α} : va_up (va_up f i x) i y = va_up f i y := by
  funext n
  unfold va_up
  by_cases e : n = i
  · rw [if_pos e, if_pos e]
  · rw [if_neg e, if_neg e, if_neg e]
/-! ===== the class: the race (3): who can be where ===== -/
def KRq (q : Nat) (K K' : Ck) : Prop := K'.1 = K.1 ∧ (∀ j, j ≠ 102 → j ≠ q → K'.2.1 j = K.2.1 j) ∧ K'.2.2.1 = K.2.2.1 ∧ K'.2.2.2.1 = K.2.2.2.1
theorem KRq.rf {q : Nat} {K : Ck} : KRq q K K := ⟨rfl, fun _ _ _ => rfl, rfl, rfl⟩
theorem KRq.tr {q : Nat} {K K1 K2 : Ck} (h : KRq q K K1) (h1 : KRq q K1 K2) : KRq q K K2 := ⟨h1.1.trans h.1, fun j hj hq => (h1.2.1 j hj hq).trans (h.2.1 j hj hq), h1.2.2.1.trans h.2.2.1, h1.2.2.2.trans h.2.2.2⟩
theorem KT.kq {q : Nat} {K K1 : Ck} (h : KT K K1) : KRq q K K1 := ⟨h.1, fun j hj _ => h.2.1 j hj, h.2.2.1, h.2.2.2⟩
theorem KRq.up {q : Nat} {K : Ck} {y : Nat → Int32} : KRq q K (K.1, va_up K.2.1 q y, K.2.2) := ⟨rfl, fun j _ hq => vu_ot hq, rfl, rfl⟩
theorem LLr.kq {q : Nat} {T : Sd} {K K' : Ck} {no na : Nat} {lf : Nat → Nat} (h : LLr T K no na lf) (hk : KRq q K K') (hq : 104 ≠ q) : LLr T K' no na lf := by
  unfold LLr
  rw [hk.1, hk.2.1 104 (by decide) hq]
  exact h
theorem TB.up {T : Sd} {LW : LWt} {g : am_H} {K : Ck} {q : Nat} {y : Nat → Int32} (h : TB T LW g K) (hq : 102 ≠ q) : TB T LW g (K.1, va_up K.2.1 q y, K.2.2) := by
  unfold TB at h ⊢
  dsimp only
  rw [vu_ot hq]
  exact h
theorem ra_n {q : Nat} (hq : raP q) : 102 ≠ q ∧ 104 ≠ q := by rcases hq with rfl | rfl <;> decide
theorem ra_m {q : Nat} (hq : raP q) : q ≠ 102 := by rcases hq with rfl | rfl <;> decide
section C1
variable {g : am_H} {T0 T1 T : Sd} {u0 u1 : Ua} {K : Ck} {rf : Nat → Nat} {p : Nat} {LW : LWt} {S : Nat → Nat} {u td nt cc : Nat} {P Z : Nat → Nat → Nat} {TD : Nat → Nat} {hd : Nat → Bool} {tp : Nat → Int32} {pc : Int32}
variable {no na : Nat} {lf : Nat → Nat}
theorem l_round {Q : Option Value → am_H → Prop} (hX : CX p T LW T0 T1 g rf) (hL : LLr T K no na lf) (hT : TB T LW g K) {l0 st k q9 : Nat} (hq9 : raP q9) (hst : st + 2 * k ≤ 2000) (hk : k ≤ 2) {j : Nat} (hj : j < k) {s : Nat → Nat} (hs : AR (K.2.1 q9) s) {l6 l7 l8 : Option Value} (q : ∀ g' u0 u1 K' rf' s' l6 l7 l8, GX g g' K.2.2.2.2 K'.2.2.2.2 → CX p T LW T0 T1 g' rf' → TB T LW g' K' → KRq q9 K K' → (∀ i, i < 8 → rf' i = rf i) → AR (K'.2.1 q9) s' → SD (j + 1) s s' → (∀ l, lieOK T l → hm T l = false → s' l ≤ j → ∀ a, a ≤ T.1 3 → CLa T LW s' l a (j + 1) (nI ((st + 2 * j) * T.1 5))) → AW am_P 5 129 35 12 [some (.ref 108), some (.ref q9), some (.int (nI l0)), some (.int (nI st)), some (.int (nI k)), some (.int (nI (j + 1))), l6, l7, l8] [] (ch g' T0 u0 T1 u1 K' rf') Q) : AW am_P 5 129 35 19 [some (.ref 108), some (.ref q9), some (.int (nI l0)), some (.int (nI st)), some (.int (nI k)), some (.int (nI j)), l6, l7, l8] [] (ch g T0 u0 T1 u1 K rf) Q := by
  have hX0 := hX
  obtain ⟨hp, hG, hW, hU, h8t, hr0, hr3, hr4, hr5, hsix, hf6, hf7, hf67⟩ := hX
  have hG0 := hG
  obtain ⟨⟨g0, g0x⟩, ⟨g1, g1x⟩, ⟨g2, g2x⟩, ⟨g3, g3x⟩, g4, ⟨g5, g5x⟩, g6, gsq, goc, gwt, gsp, gfr⟩ := hG
  have hqn := ra_n hq9
  refine aw rfl rfl ?_
  refine aw_getf rfl cg_108 rfl ?_
  refine aw rfl rfl ?_
  refine aw_c (v := nI 2) rfl (by decide) ?_
  refine aw rfl rfl ?_
  refine aw_muln rfl ?_
  refine aw_addn rfl ?_
  refine aw_cv (d1 := 4) (L1 := 100) rfl rfl cg_100 rfl rfl (by decide) (by decide) (Nat.le_of_ble_eq_true rfl) (c_X8_turnTo (T := T) (LW := LW) (p := p) hp hr3 hG0 hW hU h8t hL hT (w := st + 2 * j) (by omega) (fun g3 v0 v1 K3 q8 f8 t1 t2 t3 t4 t5 t6 => ?_))
  have hX3 : CX p T LW T0 T1 g3 (va_up rf 8 q8) := (hX0.to t1 (fun _ _ => rfl)).sw
  have hR3 : RG T LW g3 (va_up rf 8 q8) (nI ((st + 2 * j) * T.1 5)) := ⟨t4, f8, t5, t6⟩
  have hL3 := hL.kt t2
  obtain ⟨l96, lno, l18, l19, lin, lop, lhm, linj, lall, lhome⟩ := hL3
  have hs3 : AR (K3.2.1 q9) s := by rw [t2.2.1 _ (ra_m hq9)]; exact hs
  refine aw_c (v := nI 0) rfl (by decide) ?_
  refine aw_ist (ls' := [_, _, _, _, _, _, _, _, _]) rfl rfl ?_
  refine (show AW am_P 5 129 35 35 [some (.ref 108), some (.ref q9), some (.int (nI l0)), some (.int (nI st)), some (.int (nI k)), some (.int (nI j)), some (.int (nI 0)), l7, l8] [] (ch g3 T0 v0 T1 v1 (K3.1, va_up K3.2.1 q9 (K3.2.1 q9), K3.2.2) (va_up rf 8 q8)) Q → _ from fun z => by rw [va_self0] at z; exact z) ?_
  refine aw_loop (α := (Nat → Int32) × (Nat → Nat) × Option Value × Option Value) (ll := fun i y => [some (.ref 108), some (.ref q9), some (.int (nI l0)), some (.int (nI st)), some (.int (nI k)), some (.int (nI j)), some (.int (nI i)), y.2.2.1, y.2.2.2]) (hh := fun i y => (ch g3 T0 v0 T1 v1 (K3.1, va_up K3.2.1 q9 y.1, K3.2.2) (va_up rf 8 q8))) (I := fun i y => AR y.1 y.2.1 ∧ SD (j + 1) s y.2.1 ∧ (∀ i', i' < i → y.2.1 (lf i') ≤ j → ∀ a, a ≤ T.1 3 → CLa T LW y.2.1 (lf i') a (j + 1) (nI ((st + 2 * j) * T.1 5)))) (N := no) (fun i y hi hI ih => ?_) (fun y hI => ?_) 0 (K3.2.1 q9, s, l7, l8) (Nat.zero_le _) ⟨hs3, SD.rf, fun z hz => absurd hz (Nat.not_lt_zero _)⟩
  · skip
    obtain ⟨y, s1, l7, l8⟩ := y
    obtain ⟨hI1, hI2, hI3⟩ := hI
    dsimp only at hI1 hI2 hI3 ⊢
    have hlie := (lin i (by omega)).2
    have hl96 := hlie.1
    have hho := lop i hi
    have hs3i := (hI1 (lf i) hl96).2
    refine aw rfl rfl ?_
    refine aw rfl rfl ?_
    refine aw_getf rfl cg_108 rfl ?_
    refine aw_getfE rfl cg_100 rfl (congrArg Value.int l18) ?_
    refine aw_igen rfl (fun c44 => by omega) (fun c44 => ?_)
    refine aw rfl rfl ?_
    refine aw_getf rfl cg_108 rfl ?_
    refine aw_getf rfl cg_100 rfl ?_
    refine aw rfl rfl ?_
    refine aw_ialdE rfl cg_104 rfl (by omega) (by decide) ((congrFun (show va_up K3.2.1 q9 y 104 = K3.2.1 104 from vu_ot hqn.2) i).trans (lin i (by omega)).1) ?_
    refine aw_ist (ls' := [_, _, _, _, _, _, _, _, _]) rfl rfl ?_
    refine aw_c (v := nI 0) rfl (by decide) ?_
    refine aw_ist (ls' := [_, _, _, _, _, _, _, _, _]) rfl rfl ?_
    by_cases hle : s1 (lf i) ≤ j
    · skip
      refine aw_loop (α := (Nat → Int32) × (Nat → Nat)) (ll := fun a y => [some (.ref 108), some (.ref q9), some (.int (nI l0)), some (.int (nI st)), some (.int (nI k)), some (.int (nI j)), some (.int (nI i)), some (.int (nI (lf i))), some (.int (nI a))]) (hh := fun a y => (ch g3 T0 v0 T1 v1 (K3.1, va_up K3.2.1 q9 y.1, K3.2.2) (va_up rf 8 q8))) (I := fun a y => AR y.1 y.2 ∧ SD (j + 1) s1 y.2 ∧ (∀ a', a' < a → CLa T LW y.2 (lf i) a' (j + 1) (nI ((st + 2 * j) * T.1 5)))) (N := T.1 3 + 1) (fun a y ha hIa iha => ?_) (fun y hIa => ?_) 0 (y, s1) (Nat.zero_le _) ⟨hI1, SD.rf, fun z hz => absurd hz (Nat.not_lt_zero _)⟩
      · skip
        obtain ⟨y, s2⟩ := y
        obtain ⟨hJ1, hJ2, hJ3⟩ := hIa
        dsimp only at hJ1 hJ2 hJ3 ⊢
        have hsj : s2 (lf i) ≤ j := (hJ2.lt (Nat.lt_succ_self j)).mpr hle
        refine aw rfl rfl ?_
        refine aw rfl rfl ?_
        refine aw_getfE rfl cg_108 rfl (congrArg Value.ref (show va_up rf 8 q8 5 = p from hr5)) ?_
        refine aw_getf rfl (sa hp).1 rfl ?_
        refine aw_igtn rfl (fun c71 => by omega) (fun c71 => ?_)
        refine aw rfl rfl ?_
        refine aw rfl rfl ?_
        refine aw_ialdE rfl (cg_ra hq9) rfl (by omega) (by decide) ((congrFun (vu_at (f := K3.2.1)) (lf i)).trans (hJ1 (lf i) hl96).1) ?_
        refine aw rfl rfl ?_
        refine aw_igt rfl (fun c80 => absurd c80 (nI_nlt hsj (by omega))) (fun c80 => ?_)
        refine aw rfl rfl ?_
        refine aw rfl rfl ?_
        refine aw rfl rfl ?_
        refine aw rfl rfl ?_
        refine aw rfl rfl ?_
        refine aw_c (v := nI 1) rfl (by decide) ?_
        refine aw_addn rfl ?_
        refine aw_cv (d1 := 2) (L1 := 44) rfl rfl cg_108 rfl rfl (by decide) (by decide) (Nat.le_of_ble_eq_true rfl) (c_X3_reachBy (K := (K3.1, va_up K3.2.1 q9 y, K3.2.2)) (a := a) (c := j + 1) (s := s2) hX3 hR3 hq9 (by show AR (va_up K3.2.1 q9 y q9) s2; rw [vu_at]; exact hJ1) hlie hho (by omega) (by omega) (fun y9 s9 d1 d2 d3 => ?_))
        refine aw_incn (c := 1) (ls' := [_, _, _, _, _, _, _, _, _]) rfl rfl (by decide) rfl ?_
        refine aw rfl rfl ?_
        show AW _ _ _ _ _ _ _ (ch g3 T0 v0 T1 v1 (K3.1, va_up (va_up K3.2.1 q9 y) q9 y9, K3.2.2) (va_up rf 8 q8)) _
        rw [va_two]
        exact iha (y9, s9) ⟨d1, hJ2.tr d2, fun z hz => by
          by_cases e : z = a
          · subst e; exact d3
          · exact (hJ3 z (by omega)).sd d2⟩
      · skip
        obtain ⟨y, s2⟩ := y
        obtain ⟨hJ1, hJ2, hJ3⟩ := hIa
        dsimp only at hJ1 hJ2 hJ3 ⊢
        refine aw rfl rfl ?_
        refine aw rfl rfl ?_
        refine aw_getfE rfl cg_108 rfl (congrArg Value.ref (show va_up rf 8 q8 5 = p from hr5)) ?_
        refine aw_getf rfl (sa hp).1 rfl ?_
        refine aw_igtn rfl (fun c71 => ?_) (fun c71 => by omega)
        refine aw_incn (c := 1) (ls' := [_, _, _, _, _, _, _, _, _]) rfl rfl (by decide) rfl ?_
        refine aw rfl rfl ?_
        exact ih (y, s2, _, _) ⟨hJ1, hI2.tr hJ2, fun z hz h9 a ha => by
          by_cases e : z = i
          · subst e; exact hJ3 a (by omega)
          · exact (hI3 z (by omega) ((hJ2.lt (Nat.lt_succ_self j)).mp h9) a ha).sd hJ2⟩
    · skip
      refine aw rfl rfl ?_
      refine aw rfl rfl ?_
      refine aw_getfE rfl cg_108 rfl (congrArg Value.ref (show va_up rf 8 q8 5 = p from hr5)) ?_
      refine aw_getf rfl (sa hp).1 rfl ?_
      refine aw_igtn rfl (fun c71 => by omega) (fun c71 => ?_)
      refine aw rfl rfl ?_
      refine aw rfl rfl ?_
      refine aw_ialdE rfl (cg_ra hq9) rfl (by omega) (by decide) ((congrFun (vu_at (f := K3.2.1)) (lf i)).trans (hI1 (lf i) hl96).1) ?_
      refine aw rfl rfl ?_
      refine aw_igt rfl (fun c80 => ?_) (fun c80 => absurd (nI_lt (by omega) (by omega)) c80)
      refine aw_incn (c := 1) (ls' := [_, _, _, _, _, _, _, _, _]) rfl rfl (by decide) rfl ?_
      refine aw rfl rfl ?_
      exact ih (y, s1, _, _) ⟨hI1, hI2, fun z hz h9 a ha => by
        by_cases e : z = i
        · subst e; exact absurd h9 hle
        · exact hI3 z (by omega) h9 a ha⟩
  · skip
    obtain ⟨y, s1, l7, l8⟩ := y
    obtain ⟨hI1, hI2, hI3⟩ := hI
    dsimp only at hI1 hI2 hI3 ⊢
    refine aw rfl rfl ?_
    refine aw rfl rfl ?_
    refine aw_getf rfl cg_108 rfl ?_
    refine aw_getfE rfl cg_100 rfl (congrArg Value.int l18) ?_
    refine aw_igen rfl (fun c44 => ?_) (fun c44 => by omega)
    refine aw_incn (c := 1) (ls' := [_, _, _, _, _, _, _, _, _]) rfl rfl (by decide) rfl ?_
    refine aw rfl rfl ?_
    exact q g3 v0 v1 (K3.1, va_up K3.2.1 q9 y, K3.2.2) (va_up rf 8 q8) s1 _ _ _ t1 hX3 (t3.up hqn.1) (t2.kq.tr KRq.up) (fun i hi => vu_ot (by omega)) (by show AR (va_up K3.2.1 q9 y q9) s1; rw [vu_at]; exact hI1) hI2 (fun l h1 h2 h3 a ha => by
      obtain ⟨i, h4, rfl⟩ := lall l h1 h2
      exact hI3 i h4 h3 a ha)
theorem c_X3_reach {Q : Option Value → am_H → Prop} (hX : CX p T LW T0 T1 g rf) (hL : LLr T K no na lf) (hT : TB T LW g K) {l0 st k q9 : Nat} (hq9 : raP q9) (hst : st + 2 * k ≤ 2000) (hk : k ≤ 2) (hl0 : l0 < 96) (q : ∀ g' u0 u1 K' rf' s', GX g g' K.2.2.2.2 K'.2.2.2.2 → CX p T LW T0 T1 g' rf' → TB T LW g' K' → KRq q9 K K' → (∀ i, i < 8 → rf' i = rf i) → AR (K'.2.1 q9) s' → s' l0 = 0 → (∀ j, j < k → (∀ l, lieOK T l → hm T l = false → s' l ≤ j → ∀ a, a ≤ T.1 3 → CLa T LW s' l a (j + 1) (nI ((st + 2 * j) * T.1 5)))) → Q none (ch g' T0 u0 T1 u1 K' rf')) : AC am_P 5 129 35 [.ref 108, .ref q9, .int (nI l0), .int (nI st), .int (nI k)] (ch g T0 u0 T1 u1 K rf) Q := by
  refine AC.of (ls := [_, _, _, _, _, _, _, _, _]) rfl ?_
  have hqn := ra_n hq9
  refine aw rfl rfl ?_
  refine aw_c (v := nI 3) rfl (by decide) ?_
  refine aw_cs (d1 := 0) (L1 := 0) rfl rfl (by decide) (by decide) (Nat.le_of_ble_eq_true rfl) (c_X13_fill (cg_ra hq9) (by decide) (ra_8 hq9) (fun y hy => ?_))
  rw [cu_ra hq9]
  refine aw rfl rfl ?_
  refine aw rfl rfl ?_
  refine aw_c (v := nI 0) rfl (by decide) ?_
  refine aw_iastV (q := q9) (k := l0) rfl (cg_ra hq9) rfl hl0 (by decide) (ra_8 hq9) (cu_ra hq9) ?_
  refine aw_c (v := nI 0) rfl (by decide) ?_
  refine aw_ist (ls' := [_, _, _, _, _, _, _, _, _]) rfl rfl ?_
  rw [va_twice (h := fun f9 => upd f9 l0 (nI 0))]
  have key : ∀ m j g u0 u1 K rf s l6 l7 l8, j + m = k → CX p T LW T0 T1 g rf → LLr T K no na lf → TB T LW g K → AR (K.2.1 q9) s → s l0 = 0 → (∀ i, i < j → (∀ l, lieOK T l → hm T l = false → s l ≤ i → ∀ a, a ≤ T.1 3 → CLa T LW s l a (i + 1) (nI ((st + 2 * i) * T.1 5)))) → (∀ g' u0 u1 K' rf' s', GX g g' K.2.2.2.2 K'.2.2.2.2 → CX p T LW T0 T1 g' rf' → TB T LW g' K' → KRq q9 K K' → (∀ i, i < 8 → rf' i = rf i) → AR (K'.2.1 q9) s' → s' l0 = 0 → (∀ j, j < k → (∀ l, lieOK T l → hm T l = false → s' l ≤ j → ∀ a, a ≤ T.1 3 → CLa T LW s' l a (j + 1) (nI ((st + 2 * j) * T.1 5)))) → Q none (ch g' T0 u0 T1 u1 K' rf')) → AW am_P 5 129 35 12 [some (.ref 108), some (.ref q9), some (.int (nI l0)), some (.int (nI st)), some (.int (nI k)), some (.int (nI j)), l6, l7, l8] [] (ch g T0 u0 T1 u1 K rf) Q := by
    intro m
    induction m with
    | zero =>
      intro j g u0 u1 K rf s l6 l7 l8 hj hX hL hT hs h0 hcl q
      have hjk : j = k := by omega
      subst hjk
      refine aw rfl rfl ?_
      refine aw rfl rfl ?_
      refine aw_igen rfl (fun c16 => ?_) (fun c16 => by omega)
      exact aw_vret rfl rfl (q g u0 u1 K rf s GX.rf hX hT KRq.rf (fun _ _ => rfl) hs h0 hcl)
    | succ m ih =>
      intro j g u0 u1 K rf s l6 l7 l8 hj hX hL hT hs h0 hcl q
      refine aw rfl rfl ?_
      refine aw rfl rfl ?_
      refine aw_igen rfl (fun c16 => by omega) (fun c16 => ?_)
      exact l_round hX hL hT hq9 hst hk (show j < k by omega) hs (fun g1 v0 v1 K1 rf1 s1 a6 a7 a8 t1 t2 t3 t4 t5 t6 t7 t8 => ih (j + 1) g1 v0 v1 K1 rf1 s1 a6 a7 a8 (by omega) t2 (hL.kq t4 hqn.2) t3 t6 (by have := (t7 l0).1; omega) (fun i hi => by
        by_cases e : i = j
        · subst e; exact t8
        · exact fun l h1 h2 h3 a ha => (hcl i (by omega) l h1 h2 ((t7.lt (show i < j + 1 by omega)).mp h3) a ha).sd t7) (fun g2 w0 w1 K2 rf2 s2 e1 e2 e3 e4 e5 e6 e7 e8 => q g2 w0 w1 K2 rf2 s2 (t1.tr e1) e2 e3 (t4.tr e4) (fun i hi => (e5 i hi).trans (t5 i hi)) e6 e7 e8))
  have hAR : AR (upd y l0 (nI 0)) (fun m => if m = l0 then 0 else 3) := fun m hm => by
    dsimp only
    by_cases e : m = l0
    · subst e; rw [upd_at, if_pos rfl]; exact ⟨rfl, by decide⟩
    · rw [upd_ne e, if_neg e]; exact ⟨hy m hm, by decide⟩
  exact key k 0 g u0 u1 (K.1, va_up K.2.1 q9 (upd y l0 (nI 0)), K.2.2) rf (fun m => if m = l0 then 0 else 3) _ _ _ (by omega) hX (hL.kq KRq.up hqn.2) (hT.up hqn.1) (by show AR (va_up K.2.1 q9 _ q9) _; rw [vu_at]; exact hAR) (if_pos rfl) (fun i hi => absurd hi (Nat.not_lt_zero _)) (fun g2 w0 w1 K2 rf2 s2 e1 e2 e3 e4 e5 e6 e7 e8 => q g2 w0 w1 K2 rf2 s2 e1 e2 e3 (KRq.up.tr e4) e5 e6 e7 e8)
end C1
