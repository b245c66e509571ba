/-! ===== the reference: kick, waits, touch, brings (2) ===== -/
theorem drO_spec {f : Nat → Nat} {x : Nat} : ∀ m o, x < sm f (o + m) → (∀ i, i ≤ o → 0 < i → ¬ x < sm f i) → ∃ r, drO f x m o = r ∧ (m = 0 ∨ (o ≤ r ∧ r < o + m ∧ x < sm f (r + 1) ∧ ∀ i, i ≤ r → 0 < i → ¬ x < sm f i)) := by
  intro m
  induction m with
  | zero => intro o _ _; exact ⟨_, rfl, Or.inl rfl⟩
  | succ m ih =>
    intro o h hi
    by_cases e : x < sm f (o + 1)
    · exact ⟨o, by rw [drO, if_pos e], Or.inr ⟨Nat.le_refl _, by omega, e, hi⟩⟩
    · obtain ⟨r, h1, h2⟩ := ih (o + 1) (by rw [show o + 1 + m = o + (m + 1) by omega]; exact h) (fun i h3 h4 => by
        by_cases e2 : i = o + 1
        · subst e2; exact e
        · exact hi i (by omega) h4)
      refine ⟨r, by rw [drO, if_neg e]; exact h1, Or.inr ?_⟩
      rcases h2 with h2 | h2
      · exfalso; rw [h2] at h; exact e h
      · exact ⟨by omega, by omega, h2.2.2.1, h2.2.2.2⟩
theorem drw_spec {T : Sd} {S : Nat → Nat} {j : Nat} (hG : GS T) (hj : j < T.1 3) : drw T S j < oc T j ∧ lot T S < sm (fun o => sx T (6 * j + o)) (drw T S j + 1) ∧ ∀ i, i ≤ drw T S j → 0 < i → ¬ lot T S < sm (fun o => sx T (6 * j + o)) i := by
  obtain ⟨⟨g0, g0x⟩, ⟨g1, g1x⟩, ⟨g2, g2x⟩, ⟨g3, g3x⟩, g4, ⟨g5, g5x⟩, g6, gsq, goc, gwt, gsp, gfr⟩ := hG
  have hg := goc j hj
  have hl := (lot_eq T S).1
  obtain ⟨r, h1, h2⟩ := drO_spec (f := fun o => sx T (6 * j + o)) (x := lot T S) (oc T j) 0 (by rw [Nat.zero_add, hg.2.2.2.1]; exact hl) (fun i h3 h4 => by omega)
  have e : drw T S j = r := h1
  rw [e]
  rcases h2 with h2 | h2
  · omega
  · exact ⟨by omega, h2.2.2.1, h2.2.2.2⟩
def a_kick (T : Sd) (LW : LWt) (S : Nat → Nat) (x : Int32) : Int32 := kin T x fun j => if S 6 = 0 ∧ mck T (S 0 * 3 + S 1) j = true then mvA T LW S (6 * j + drw T S j) else -2
def kB (T : Sd) (S : Nat → Nat) (x : Int32) : Bool := decide (nI 0 ≤ x) && decide (x < nI (T.1 3)) && decide (S 6 = 0) && mck T (S 0 * 3 + S 1) x.toNatClampNeg
def kW (T : Sd) (S : Nat → Nat) (x : Int32) : Nat := 6 * x.toNatClampNeg + drw T S x.toNatClampNeg
theorem mvM_lost {T : Sd} {S : Nat → Nat} (h1 : S 1 < 3) (h6 : S 6 = 0) (hh : hm T (S 0 * 3 + S 1) = false) : mvM T S (S 0 * 3 + S 1) (S 2) false = fun j => if j = 4 then S 4 + 1 else S j := by
  funext j
  unfold mvM
  by_cases e0 : j = 0
  · subst e0; rw [if_pos rfl, if_neg (by decide)]; omega
  · rw [if_neg e0]
    by_cases e1 : j = 1
    · subst e1; rw [if_pos rfl, if_neg (by decide)]; omega
    · rw [if_neg e1]
      by_cases e2 : j = 2
      · subst e2; rfl
      · rw [if_neg e2]
        by_cases e3 : j = 3
        · subst e3; rfl
        · rw [if_neg e3]
          by_cases e4 : j = 4
          · subst e4; rfl
          · rw [if_neg e4, if_neg e4]
            by_cases e6 : j = 6
            · subst e6; rw [if_pos rfl, hh, h6]; rfl
            · rw [if_neg e6]
section M1
variable {g : am_H} {k : Mk} {v pl : Nat → Int32} {br lo : Int32} {c ct pr pt cm bf bt : Nat → Int32}
variable {lv : Nat} {T : Sd} {W : Nat → Lw}
variable {S : Nat → Nat} {u td nt cc : Nat} {P Z : Nat → Nat → Nat} {TD : Nat → Nat} {hd : Nat → Bool} {tp : Nat → Int32} {pc : Int32}
theorem c_X11_mixed {Q : Option Value → am_H → Prop} {x y : Int32} (q : Q (some (.int (n_mix x y))) (mh g k v pl br lo c ct pr pt cm bf bt)) : AC am_P 0 0 238 [.int x, .int y] (mh g k v pl br lo c ct pr pt cm bf bt) Q := by
  refine AC.of (ls := [_, _, _]) rfl ?_
  refine aw rfl rfl ?_
  refine aw rfl rfl ?_
  refine aw rfl rfl ?_
  refine aw rfl rfl ?_
  refine aw rfl rfl ?_
  refine aw_c (v := nI 12345) rfl (by decide) ?_
  refine aw rfl rfl ?_
  refine aw_ist (ls' := [_, _, _]) rfl rfl ?_
  refine aw rfl rfl ?_
  refine aw rfl rfl ?_
  refine aw_c (v := nI 15) rfl (by decide) ?_
  refine aw rfl rfl ?_
  refine aw rfl rfl ?_
  exact aw_iret rfl rfl q
theorem c_come {Q : Option Value → am_H → Prop} (hX : MS k T W S u P td TD hd Z nt tp pc cc) {way st : Nat} {lo2 : Int32} (hc1 : cc < 1000) (h6 : S 6 = 0) (hst : (lnd T (lwf W) S way = -1 ∧ st = lsg (S 0 * 3 + S 1) (S 2) ∧ lo2 = nI 1) ∨ (∃ m, lnd T (lwf W) S way = nI m ∧ lieOK T m ∧ st = 4 * m + S 2 ∧ lo2 = nI 0)) (q : ∀ k', MS k' T W (mvS T (lwf W) S way) (psU u) (psP u P S) td TD hd Z nt tp pc (cc + 1) → Q (some (.int (mvA T (lwf W) S way))) (mh g k' v pl br lo c ct pr pt cm bf bt)) : AC am_P 3 64 243 [.ref 121, .int (nI st), .int lo2] (mh g k v pl br lo c ct pr pt cm bf bt) Q := by
  unfold mvS mvA at q
  have hsc := hX.2.2.2.1
  have hs0 := hsc.1.1
  rcases hst with ⟨h1, h2, h3⟩ | ⟨m, h1, h2, h3, h4⟩
  · subst h2 h3
    rw [if_pos h1, if_pos h1] at q
    unfold lsg
    by_cases e : S 2 = 0
    · rw [if_pos e] at q ⊢
      rw [if_pos e] at q
      exact c_comesL hX hc1 h6 q
    · rw [if_neg e] at q ⊢
      rw [if_neg e] at q
      exact c_comesM1 hX hc1 h6 hs0 (by omega) q
  · subst h3 h4
    have hm96 := h2.1
    rw [if_neg (by rw [h1]; exact n_m1 (by omega)), if_neg (by rw [h1]; exact n_m1 (by omega)), h1, nI_clamp (by omega)] at q
    exact c_comesM0 hX hc1 h6 h2 rfl q
theorem sm_c6 : ∀ n, sm (fun _ => 6) n ≤ 6 * n := by
  intro n
  induction n with
  | zero => exact Nat.le_refl _
  | succ n ih => show sm _ n + 6 ≤ _; omega
theorem n_lt1 {x : Int32} {n : Nat} (hn : n + 1 < 2147483648) (h : x < nI (n + 1)) : x ≤ nI n := by
  by_cases e : x < 0
  · exact Int32.le_of_lt (Int32.lt_of_lt_of_le e (nI_pos' (by omega)))
  · obtain ⟨j, hj, rfl⟩ := nI_of e
    exact nI_le (by have := (nI_ltI hj hn).mp h; omega) (by omega)
theorem kB_no {x : Int32} (h1 : 1 ≤ T.1 3) (h4 : T.1 3 ≤ 4) (p : ¬ nI 0 ≤ x ∨ ¬ x ≤ nI (T.1 3 - 1)) : kB T S x = false := by
  unfold kB
  by_cases e : nI 0 ≤ x
  · have h2 : ¬ x < nI (T.1 3) := fun y => by
      rw [show T.1 3 = T.1 3 - 1 + 1 by omega] at y
      exact p.elim (fun z => z e) (fun z => z (n_lt1 (by omega) y))
    rw [decide_eq_false h2, Bool.and_false]; rfl
  · rw [decide_eq_false e]; rfl
theorem c_X11_kick {Q : Option Value → am_H → Prop} (hX : MS k T W S u P td TD hd Z nt tp pc cc) {x : Int32} (hc1 : cc < 1000) (q0 : kB T S x = false → Q (some (.int (a_kick T (lwf W) S x))) (mh g k v pl br lo c ct pr pt cm bf bt)) (q1 : kB T S x = true → ∀ k' v pl br lo, MS k' T W (mvS T (lwf W) S (kW T S x)) (psU u) (psP u P S) td TD hd Z nt tp pc (cc + 1) → Q (some (.int (a_kick T (lwf W) S x))) (mh g k' v pl br lo c ct pr pt cm bf bt)) : AC am_P 4 107 235 [.ref 121, .int x] (mh g k v pl br lo c ct pr pt cm bf bt) Q := by
  refine AC.of (ls := [_, _, _, _, _, _]) rfl ?_
  have hX0 := hX
  obtain ⟨⟨lv, hM⟩, hG, hN, hSC, hH, hT, hL, hA, hpc, hKY, hcc⟩ := hX
  have hS := hSC.1
  have hM0 := hM
  have hG0 := hG
  obtain ⟨m0, m1, mr, mw, mf, mk, mli, mt, ms, msq, moc, mwy, msp, mlw⟩ := hM
  obtain ⟨⟨g0, g0x⟩, ⟨g1, g1x⟩, ⟨g2, g2x⟩, ⟨g3, g3x⟩, g4, ⟨g5, g5x⟩, g6, gsq, goc, gwt, gsp, gfr⟩ := hG
  have hN0 := hN
  have hS0 := hS
  obtain ⟨n0, n1, n2, n3, n4, n5, n6, n7, n8⟩ := hN
  obtain ⟨s0, s1, s2, s3, s4, s5, s6⟩ := hS
  have hl96 := s0.1
  unfold a_kick at q0 q1
  refine aw rfl rfl ?_
  refine aw_c (v := nI 0) rfl (by decide) ?_
  refine aw rfl rfl ?_
  refine aw_getf rfl mg_121 rfl ?_
  refine aw rfl rfl ?_
  refine aw_getfE rfl mg_121 rfl (congrArg Value.int m1) ?_
  refine aw_ialdE rfl mg_134 rfl (by omega) (by decide) mk ?_
  refine aw_c (v := nI 1) rfl (by decide) ?_
  refine aw_subn rfl (by omega) ?_
  refine aw_cs (d1 := 0) (L1 := 0) rfl rfl (by decide) (by decide) (Nat.le_of_ble_eq_true rfl) (c_X11_in (fun p1 p2 => ?_) (fun p => ?_))
  · refine aw_ne rfl (fun _ => ?_) (fun c => absurd c (by decide))
    obtain ⟨j, rfl, _, hj1⟩ := n_of3 p1 p2 (by omega) (by decide)
    have hj : j < T.1 3 := by omega
    refine aw rfl rfl ?_
    refine aw_cv (d1 := 3) (L1 := 64) rfl rfl mg_121 rfl rfl (by decide) (by decide) (Nat.le_of_ble_eq_true rfl) (c_X11_isOver hM0 hG0 hN0 hS0 (fun z => ?_) (fun z => ?_))
    · refine aw_ne rfl (fun _ => ?_) (fun c => absurd c (by decide))
      refine aw_c (v := -2) rfl (by decide) ?_
      exact aw_iret rfl rfl (by rw [kin_yes g3x hj, if_neg (fun y => z y.1)] at q0; exact q0 (by unfold kB; rw [decide_eq_false z, Bool.and_false]; rfl))
    · refine aw_ne rfl (fun c => absurd (by decide) c) (fun _ => ?_)
      refine aw rfl rfl ?_
      refine aw rfl rfl ?_
      refine aw_cv (d1 := 1) (L1 := 23) rfl rfl mg_121 rfl rfl (by decide) (by decide) (Nat.le_of_ble_eq_true rfl) (c_X11_stateNow hM0 hG0 hN0 hS0 (fun y => absurd y (by omega)) (fun _ => ?_))
      refine aw rfl rfl ?_
      refine aw_cv (d1 := 2) (L1 := 43) rfl rfl mg_121 rfl rfl (by decide) (by decide) (Nat.le_of_ble_eq_true rfl) (c_X11_canKick hM0 hG0 s0 (by omega) hj (fun hz => ?_) (fun hz => ?_))
      · refine aw_ne rfl (fun _ => ?_) (fun c => absurd c (by decide))
        have hkb : kB T S (nI j) = true := by unfold kB; rw [decide_eq_true (nI_le (Nat.zero_le _) (by omega)), decide_eq_true (nI_lt hj (by omega)), decide_eq_true z, nI_clamp (by omega), mck_iff.mpr hz]; rfl
        have q := q1 hkb
        have hkw : kW T S (nI j) = 6 * j + drw T S j := by unfold kW; rw [nI_clamp (by omega)]
        rw [kin_yes g3x hj, if_pos ⟨z, mck_iff.mpr hz⟩, hkw] at q
        have hl := lot_eq T S
        have hl6 := hl.1
        have hd := drw_spec (S := S) hG0 hj
        have hg := goc j hj
        have ho6 := hg.2.2.1
        refine aw rfl rfl ?_
        refine aw_getf rfl mg_121 rfl ?_
        refine aw rfl rfl ?_
        refine aw_getfE rfl mg_121 rfl (congrArg Value.int m1) ?_
        refine aw_ialdE rfl mg_144 rfl (by omega) (by decide) ms ?_
        refine aw_c (v := nI 55) rfl (by decide) ?_
        refine aw_cs (d1 := 0) (L1 := 0) rfl rfl (by decide) (by decide) (Nat.le_of_ble_eq_true rfl) (c_X11_mixed ?_)
        refine aw rfl rfl ?_
        refine aw_getf rfl mg_121 rfl ?_
        refine aw_c (v := nI 4) rfl (by decide) ?_
        refine aw_ialdE rfl mg_157 rfl (by omega) (by decide) n4 ?_
        refine aw_cs (d1 := 0) (L1 := 0) rfl rfl (by decide) (by decide) (Nat.le_of_ble_eq_true rfl) (c_X11_mixed ?_)
        refine aw_c (v := nI 1) rfl (by decide) ?_
        refine aw rfl rfl ?_
        refine aw_c (v := nI 6) rfl (by decide) ?_
        refine aw_irem rfl (by decide) ?_
        refine (show AW _ _ _ _ _ _ (.int (n_lot (nI (T.1 6)) (nI (S 4))) :: _) _ _ from ?_)
        rw [hl.2]
        refine aw_ist (ls' := [_, _, _, _, _, _]) rfl rfl ?_
        skip
        refine aw_c (v := nI 0) rfl (by decide) ?_
        refine aw_ist (ls' := [_, _, _, _, _, _]) rfl rfl ?_
        refine aw rfl rfl ?_
        refine aw_getf rfl mg_121 rfl ?_
        refine aw_c (v := nI 6) rfl (by decide) ?_
        refine aw_c (v := nI 4) rfl (by decide) ?_
        refine aw rfl rfl ?_
        refine aw_getfE rfl mg_121 rfl (congrArg Value.int m1) ?_
        refine aw_muln rfl ?_
        refine aw rfl rfl ?_
        refine aw_addn rfl ?_
        refine aw_muln rfl ?_
        refine aw_ialdE rfl mg_136 rfl (by omega) (by decide) ((mwy j 0 hj (by omega)).1.trans (hg.2.2.2.2 0 (by omega)).1) ?_
        refine aw_ist (ls' := [_, _, _, _, _, _]) rfl rfl ?_
        have key : ∀ m o, o + m = drw T S j → AW am_P 4 107 235 92 [some (.ref 121), some (.int (nI j)), some (.int (nI (lot T S))), some (.int (nI o)), some (.int (nI (sm (fun o => sx T (6 * j + o)) (o + 1)))), none] [] (mh g k v pl br lo c ct pr pt cm bf bt) Q := by
          intro m
          induction m with
          | zero =>
            intro o ho
            have ho2 : o = drw T S j := by omega
            subst ho2
            have hsm := sm_le (f := fun o => sx T (6 * j + o)) (g := fun _ => 6) (N := 1) (drw T S j + 1) (fun i hi => by have := (hg.2.2.2.2 i (by omega)).2.2; omega)
            have hs6 : sm (fun _ => 6) (drw T S j + 1) ≤ 36 := Nat.le_trans (sm_c6 _) (by omega)
            refine aw rfl rfl ?_
            refine aw rfl rfl ?_
            refine aw_igtn rfl (fun c95 => ?_) (fun c95 => absurd hd.2.1 c95)
            refine aw rfl rfl ?_
            refine aw rfl rfl ?_
            refine aw_cv (d1 := 1) (L1 := 23) rfl rfl mg_121 rfl rfl (by decide) (by decide) (Nat.le_of_ble_eq_true rfl) (c_X11_stateNow hM0 hG0 hN0 hS0 (fun y => absurd y (by omega)) (fun _ => ?_))
            refine aw rfl rfl ?_
            refine aw rfl rfl ?_
            refine aw rfl rfl ?_
            refine aw_getf rfl mg_121 rfl ?_
            refine aw_c (v := nI 5) rfl (by decide) ?_
            refine aw_ialdE rfl mg_157 rfl (by omega) (by decide) n5 ?_
            refine aw_cv (d1 := 3) (L1 := 75) rfl rfl mg_121 rfl rfl (by decide) (by decide) (Nat.le_of_ble_eq_true rfl) (c_X11_brought hM0 hG0 s0 (by omega) hj hd.1 (fun y v pl br => ?_) (fun m y y2 v pl br => ?_))
            · refine aw_ist (ls' := [_, _, _, _, _, _]) rfl rfl ?_
              refine aw rfl rfl ?_
              refine aw rfl rfl ?_
              refine aw rfl rfl ?_
              refine aw_getf rfl mg_121 rfl ?_
              refine aw_cv (d1 := 3) (L1 := 64) rfl rfl mg_121 rfl rfl (by decide) (by decide) (Nat.le_of_ble_eq_true rfl) (c_come (way := 6 * j + drw T S j) hX0 hc1 z (Or.inl ⟨y, rfl, rfl⟩) (fun k' hk => ?_))
              exact aw_iret rfl rfl (q _ _ _ _ _ hk)
            · refine aw_ist (ls' := [_, _, _, _, _, _]) rfl rfl ?_
              refine aw rfl rfl ?_
              refine aw rfl rfl ?_
              refine aw rfl rfl ?_
              refine aw_getf rfl mg_121 rfl ?_
              refine aw_cv (d1 := 3) (L1 := 64) rfl rfl mg_121 rfl rfl (by decide) (by decide) (Nat.le_of_ble_eq_true rfl) (c_come (way := 6 * j + drw T S j) hX0 hc1 z (Or.inr ⟨m, y, y2, rfl, rfl⟩) (fun k' hk => ?_))
              exact aw_iret rfl rfl (q _ _ _ _ _ hk)
          | succ m ih =>
            intro o ho
            have hsm := sm_le (f := fun o => sx T (6 * j + o)) (g := fun _ => 6) (N := 1) (o + 1) (fun i hi => by have := (hg.2.2.2.2 i (by omega)).2.2; omega)
            have hs6 : sm (fun _ => 6) (o + 1) ≤ 36 := Nat.le_trans (sm_c6 _) (by omega)
            refine aw rfl rfl ?_
            refine aw rfl rfl ?_
            refine aw_igtn rfl (fun c95 => absurd c95 (hd.2.2 (o + 1) (by omega) (by omega))) (fun c95 => ?_)
            refine aw_incn (c := 1) (ls' := [_, _, _, _, _, _]) rfl rfl (by decide) rfl ?_
            refine aw rfl rfl ?_
            refine aw rfl rfl ?_
            refine aw_getf rfl mg_121 rfl ?_
            refine aw_c (v := nI 6) rfl (by decide) ?_
            refine aw_c (v := nI 4) rfl (by decide) ?_
            refine aw rfl rfl ?_
            refine aw_getfE rfl mg_121 rfl (congrArg Value.int m1) ?_
            refine aw_muln rfl ?_
            refine aw rfl rfl ?_
            refine aw_addn rfl ?_
            refine aw_muln rfl ?_
            refine aw rfl rfl ?_
            refine aw_addn rfl ?_
            refine aw_ialdE rfl mg_136 rfl (by omega) (by decide) ((mwy j (o + 1) hj (by omega)).1.trans (hg.2.2.2.2 (o + 1) (by omega)).1) ?_
            refine aw_addn rfl ?_
            refine aw_ist (ls' := [_, _, _, _, _, _]) rfl rfl ?_
            refine aw rfl rfl ?_
            exact ih (o + 1) (by omega)
        have h := key (drw T S j) 0 (Nat.zero_add _)
        rw [show sm (fun o => sx T (6 * j + o)) (0 + 1) = sx T (6 * j) from (Nat.zero_add _)] at h
        exact h
      · refine aw_ne rfl (fun c => absurd (by decide) c) (fun _ => ?_)
        refine aw_c (v := -2) rfl (by decide) ?_
        exact aw_iret rfl rfl (by rw [kin_yes g3x hj, if_neg (fun y => hz (mck_iff.mp y.2))] at q0; exact q0 (by unfold kB; rw [nI_clamp (by omega), Bool.eq_false_iff.mpr (fun y => hz (mck_iff.mp y)), Bool.and_false]))
  · refine aw_ne rfl (fun c => absurd (by decide) c) (fun _ => ?_)
    refine aw_c (v := -1) rfl (by decide) ?_
    exact aw_iret rfl rfl (by rw [kin_no (n_out (by omega) (by omega) p)] at q0; exact q0 (kB_no (by omega) (by omega) p))
def a_waits (T : Sd) (LW : LWt) (S : Nat → Nat) : Int32 := if S 6 = 0 then mvA T LW S 24 else -2
theorem c_X11_waits {Q : Option Value → am_H → Prop} (hX : MS k T W S u P td TD hd Z nt tp pc cc) (hc1 : cc < 1000) (q0 : ¬ S 6 = 0 → Q (some (.int (a_waits T (lwf W) S))) (mh g k v pl br lo c ct pr pt cm bf bt)) (q1 : S 6 = 0 → ∀ k' v pl br lo, MS k' T W (mvS T (lwf W) S 24) (psU u) (psP u P S) td TD hd Z nt tp pc (cc + 1) → Q (some (.int (a_waits T (lwf W) S))) (mh g k' v pl br lo c ct pr pt cm bf bt)) : AC am_P 4 97 246 [.ref 121] (mh g k v pl br lo c ct pr pt cm bf bt) Q := by
  refine AC.of (ls := [_, _]) rfl ?_
  have hX0 := hX
  obtain ⟨⟨lv, hM⟩, hG, hN, hSC, hH, hT, hL, hA, hpc, hKY, hcc⟩ := hX
  have hS := hSC.1
  have hM0 := hM
  have hG0 := hG
  obtain ⟨m0, m1, mr, mw, mf, mk, mli, mt, ms, msq, moc, mwy, msp, mlw⟩ := hM
  obtain ⟨⟨g0, g0x⟩, ⟨g1, g1x⟩, ⟨g2, g2x⟩, ⟨g3, g3x⟩, g4, ⟨g5, g5x⟩, g6, gsq, goc, gwt, gsp, gfr⟩ := hG
  have hN0 := hN
  have hS0 := hS
  obtain ⟨n0, n1, n2, n3, n4, n5, n6, n7, n8⟩ := hN
  obtain ⟨s0, s1, s2, s3, s4, s5, s6⟩ := hS
  have hl96 := s0.1
  unfold a_waits at q0 q1
  have hls := lsg_lt hl96 (show S 2 < 4 by omega)
  refine aw rfl rfl ?_
  refine aw_cv (d1 := 3) (L1 := 64) rfl rfl mg_121 rfl rfl (by decide) (by decide) (Nat.le_of_ble_eq_true rfl) (c_X11_isOver hM0 hG0 hN0 hS0 (fun z => ?_) (fun z => ?_))
  · refine aw_eq rfl (fun c => absurd c (by decide)) (fun _ => ?_)
    refine aw_c (v := -2) rfl (by decide) ?_
    exact aw_iret rfl rfl (by rw [if_neg z] at q0; exact q0 z)
  · refine aw_eq rfl (fun _ => ?_) (fun c => absurd (by decide) c)
    refine aw rfl rfl ?_
    refine aw rfl rfl ?_
    refine aw_cv (d1 := 1) (L1 := 23) rfl rfl mg_121 rfl rfl (by decide) (by decide) (Nat.le_of_ble_eq_true rfl) (c_X11_stateNow hM0 hG0 hN0 hS0 (fun y => absurd y (by omega)) (fun _ => ?_))
    refine aw rfl rfl ?_
    refine aw_getf rfl mg_121 rfl ?_
    refine aw_c (v := nI 5) rfl (by decide) ?_
    refine aw_ialdE rfl mg_157 rfl (by omega) (by decide) n5 ?_
    refine aw_cv (d1 := 3) (L1 := 75) rfl rfl mg_121 rfl rfl (by decide) (by decide) (Nat.le_of_ble_eq_true rfl) (c_X11_waited hM0 hG0 s0 (by omega) (fun y v pl br => ?_) (fun y v pl br => ?_))
    · refine aw_ist (ls' := [_, _]) rfl rfl ?_
      refine aw rfl rfl ?_
      refine aw rfl rfl ?_
      refine aw rfl rfl ?_
      refine aw rfl rfl ?_
      refine aw_cv (d1 := 1) (L1 := 23) rfl rfl mg_121 rfl rfl (by decide) (by decide) (Nat.le_of_ble_eq_true rfl) (c_X11_stateNow hM0 hG0 hN0 hS0 (fun y => absurd y (by omega)) (fun _ => ?_))
      refine aw_ieqn rfl (fun c32 => by unfold lsg at c32; split at c32 <;> omega) (fun c32 => ?_)
      refine aw_c (v := nI 1) rfl (by decide) ?_
      refine aw rfl rfl ?_
      refine aw_cv (d1 := 3) (L1 := 64) rfl rfl mg_121 rfl rfl (by decide) (by decide) (Nat.le_of_ble_eq_true rfl) (c_come (way := 24) hX0 hc1 z (Or.inl ⟨y, rfl, rfl⟩) (fun k' hk => ?_))
      exact aw_iret rfl rfl (by rw [if_pos z] at q1; exact q1 z _ _ _ _ _ hk)
    · refine aw_ist (ls' := [_, _]) rfl rfl ?_
      refine aw rfl rfl ?_
      refine aw rfl rfl ?_
      refine aw rfl rfl ?_
      refine aw rfl rfl ?_
      refine aw_cv (d1 := 1) (L1 := 23) rfl rfl mg_121 rfl rfl (by decide) (by decide) (Nat.le_of_ble_eq_true rfl) (c_X11_stateNow hM0 hG0 hN0 hS0 (fun y => absurd y (by omega)) (fun _ => ?_))
      refine aw_ieqn rfl (fun c32 => ?_) (fun c32 => absurd rfl c32)
      refine aw_c (v := nI 0) rfl (by decide) ?_
      refine aw_cv (d1 := 3) (L1 := 64) rfl rfl mg_121 rfl rfl (by decide) (by decide) (Nat.le_of_ble_eq_true rfl) (c_come (way := 24) hX0 hc1 z (Or.inr ⟨S 0 * 3 + S 1, y, s0, rfl, rfl⟩) (fun k' hk => ?_))
      exact aw_iret rfl rfl (by rw [if_pos z] at q1; exact q1 z _ _ _ _ _ hk)
end M1
