/-! ===== the class: the table turned to a step (2) ===== -/
theorem ctN_dec {P P' : Nat → Bool} {a : Nat} (h1 : P a = true) (h2 : P' a = false) (h3 : ∀ i, i ≠ a → P' i = P i) : ∀ n, a < n → ctN P' n + 1 = ctN P n := by
  intro n
  induction n with
  | zero => intro h; omega
  | succ n ih =>
    intro h
    show ctN P' n + (bif P' n then 1 else 0) + 1 = ctN P n + (bif P n then 1 else 0)
    by_cases e : a = n
    · subst e
      have e2 : ∀ m, m ≤ a → ctN P' m = ctN P m := by
        intro m
        induction m with
        | zero => intro _; rfl
        | succ m ihm =>
          intro hm
          show ctN P' m + (bif P' m then 1 else 0) = ctN P m + (bif P m then 1 else 0)
          rw [ihm (by omega), h3 m (by omega)]
      rw [e2 a (Nat.le_refl _), h1, h2]
      rfl
    · rw [h3 n (fun z => e z.symm)]
      have := ih (by omega)
      omega
theorem nn_up {r : Nat → Option Nat} {a q : Nat} (ha : a < 16) (h : r a = none) : nn (va_up r a (some q)) + 1 = nn r := ctN_dec (a := a) (by rw [h]; rfl) (by rw [vu_at]; rfl) (fun i hi => by rw [vu_ot hi]) 16 ha
section C1
variable {g : am_H} {T0 T1 T : Sd} {u0 u1 : Ua} {K : Ck} {rf : Nat → Nat} {p : Nat} {LW : LWt} {S : Nat → Nat} {u td nt cc : Nat} {P Z : Nat → Nat → Nat} {TD : Nat → Nat} {hd : Nat → Bool} {tp : Nat → Int32} {pc : Int32}
variable {no na : Nat} {lf : Nat → Nat}
theorem l_turn2 {Q : Option Value → am_H → Prop} (hp : SP2 p T T0 T1) (hr3 : rf 3 = p) (hG : GS T) (hW : LWs T LW) (hL : LLr T K no na lf) {q8 st w at8 : Nat} {f0 : Nat → Int32} (ha : at8 < 16) (hst : st < 2147483648) (hrw : K.2.2.2.2 at8 = some q8) (h8 : rowP q8) (hf0 : g.2.2 q8 = am_ints 2400 f0) (hok : K.2.1 102 at8 = nI st → RWc T LW f0 (nI (st * T.1 5))) (q : ∀ f u0 u1, RWc T LW f (nI (st * T.1 5)) → Q none (ch (am_up g q8 (am_ints 2400 f)) T0 u0 T1 u1 (K.1, va_up K.2.1 102 (upd (K.2.1 102) at8 (nI st)), K.2.2) (va_up rf 8 q8))) : AW am_P 4 100 114 36 [some (.ref 100), some (.int (nI w)), some (.int (nI st)), some (.int (nI at8)), none, none, none, none, none, none] [] (ch g T0 u0 T1 u1 K rf) Q := by
  have l18 := hL.2.2.1
  have l96 := hL.1
  have lno := hL.2.1
  refine aw rfl rfl ?_
  refine aw rfl rfl ?_
  refine aw_getf rfl cg_100 rfl ?_
  refine aw rfl rfl ?_
  refine aw_aald (k := at8) rfl cg_101 rfl ha (by decide) hrw ?_
  refine aw_putfU rfl cg_100 rfl rfl (by decide) cp_100_3 ?_
  refine aw rfl rfl ?_
  refine aw_getf rfl cg_100 rfl ?_
  refine aw rfl rfl ?_
  refine aw_iald rfl cg_102 rfl (by omega) (by decide) ?_
  refine aw rfl rfl ?_
  refine aw_ine rfl (fun c53 => ?_) (fun c53 => ?_)
  · refine aw rfl rfl ?_
    refine aw_getfE rfl cg_100 rfl (congrArg Value.int l18) ?_
    refine aw_ist (ls' := [_, _, _, _, _, _, _, _, _, _]) rfl rfl ?_
    refine aw rfl rfl ?_
    refine aw_getf rfl cg_100 rfl ?_
    refine aw rfl rfl ?_
    refine aw rfl rfl ?_
    refine aw_iastU rfl cg_102 rfl (by omega) (by decide) (by decide) cu_102 ?_
    exact l_fill (rf := va_up rf 8 q8) (K := (K.1, va_up K.2.1 102 (upd (K.2.1 102) at8 (nI st)), K.2.2)) hp (show va_up rf 8 q8 3 = p from hr3) hG hW hL rfl h8 hf0 q
  · refine aw_c (v := nI 0) rfl (by decide) ?_
    refine aw rfl rfl ?_
    refine aw_ist (ls' := [_, _, _, _, _, _, _, _, _, _]) rfl rfl ?_
    refine aw rfl rfl ?_
    refine aw_getf rfl cg_100 rfl ?_
    refine aw rfl rfl ?_
    refine aw rfl rfl ?_
    refine aw_iastU rfl cg_102 rfl (by omega) (by decide) (by decide) cu_102 ?_
    refine aw_c (v := nI 0) rfl (by decide) ?_
    refine aw_ist (ls' := [_, _, _, _, _, _, _, _, _, _]) rfl rfl ?_
    refine aw rfl rfl ?_
    refine aw rfl rfl ?_
    refine aw_ige rfl (fun _ => ?_) (fun c => absurd (by decide) c)
    exact aw_vret rfl rfl (by have := q f0 u0 u1 (hok c53); rw [am_up_self hf0] at this; exact this)
theorem c_X8_turnTo {Q : Option Value → am_H → Prop} (hp : SP2 p T T0 T1) (hr3 : rf 3 = p) (hG : GS T) (hW : LWs T LW) (hU : UT T LW) (h8t : T.1 8 < 2147483648) (hL : LLr T K no na lf) (hT : TB T LW g K) {w : Nat} (hw : w ≤ 2000) (q : ∀ g' u0 u1 K' q8 f, GX g g' K.2.2.2.2 K'.2.2.2.2 → KT K K' → TB T LW g' K' → rowP q8 → g'.2.2 q8 = am_ints 2400 f → RWc T LW f (nI (w * T.1 5)) → Q none (ch g' T0 u0 T1 u1 K' (va_up rf 8 q8))) : AC am_P 4 100 114 [.ref 100, .int (nI w)] (ch g T0 u0 T1 u1 K rf) Q := by
  refine AC.of (ls := [_, _, _, _, _, _, _, _, _, _]) rfl ?_
  obtain ⟨t171, trow, tinj, tnone⟩ := hT
  refine aw rfl rfl ?_
  refine aw rfl rfl ?_
  refine aw_cv (d1 := 1) (L1 := 20) rfl rfl cg_100 rfl rfl (by decide) (by decide) (Nat.le_of_ble_eq_true rfl) (c_X8_stepThatCounts hp hr3 h8t ?_)
  generalize hst0 : (if T.1 8 = 0 then 0 else w) = st
  have hst9 : st ≤ 2000 := by rw [← hst0]; split <;> omega
  refine aw_ist (ls' := [_, _, _, _, _, _, _, _, _, _]) rfl rfl ?_
  refine aw rfl rfl ?_
  refine aw_c (v := nI 16) rfl (by decide) ?_
  refine aw_remn rfl (by omega) (by omega) (by omega) ?_
  refine aw_ist (ls' := [_, _, _, _, _, _, _, _, _, _]) rfl rfl ?_
  refine aw rfl rfl ?_
  refine aw_gen rfl ?_
  have hst : st ≤ 2000 := by rw [← hst0]; split <;> omega
  have hRW : ∀ f, RWc T LW f (nI (st * T.1 5)) → RWc T LW f (nI (w * T.1 5)) := fun f h => by
    by_cases e : T.1 8 = 0
    · exact fun l h1 h2 way hw => (h l h1 h2 way hw).trans (n_land_ut hU e)
    · rw [if_neg e] at hst0; subst hst0; exact h
  have ha : st % 16 < 16 := Nat.mod_lt _ (by decide)
  cases hrw : K.2.2.2.2 (st % 16) with
  | none =>
    refine aw rfl rfl ?_
    refine aw_getf rfl cg_100 rfl ?_
    refine aw rfl rfl ?_
    refine aw_aaldN rfl cg_101 rfl ha (by decide) hrw ?_
    refine aw rfl rfl ?_
    refine aw rfl rfl ?_
    refine aw_getf rfl cg_100 rfl ?_
    refine aw rfl rfl ?_
    refine aw_c (v := nI 2400) rfl (by decide) ?_
    refine aw_newi rfl rfl (by decide) ?_
    rw [cn_row (show 121 ≤ g.1 by omega)]
    refine aw_aastU rfl cg_101 rfl ha (by decide) (by decide) (show 8 ≤ g.1 by omega) (show g.1 < g.1 + 1 by omega) (by show am_elt 5 ((ch (am_nw g 2400 (am_ints 2400 fun _ => 0)) T0 u0 T1 u1 K rf).2.2 g.1) = true; rw [cg_row (Or.inr (show 121 ≤ g.1 by omega)), show (am_nw g 2400 (am_ints 2400 fun _ => 0)).2.2 g.1 = am_ints 2400 fun _ => 0 from vu_at]; rfl) cu_101 ?_
    have h1 : (am_nw g 2400 (am_ints 2400 fun _ => 0)).2.2 g.1 = am_ints 2400 (fun _ => 0) := vu_at
    refine l_turn2 (K := (K.1, K.2.1, K.2.2.1, K.2.2.2.1, va_up K.2.2.2.2 (st % 16) (some g.1))) (g := am_nw g 2400 (am_ints 2400 fun _ => 0)) (f0 := fun _ => 0) hp hr3 hG hW hL ha (by omega) vu_at (Or.inr t171) h1 (fun z => absurd (z.symm.trans (tnone _ ha hrw)) (n_m1 (by omega))) (fun f v0 v1 hf => ?_)
    refine q _ v0 v1 _ g.1 f ⟨fun z h2 h3 => ?_, ?_, ?_⟩ ⟨rfl, fun j hj => vu_ot hj, rfl, rfl⟩ ⟨?_, ?_, ?_, ?_⟩ (Or.inr t171) hg_eq (hRW f hf)
    · show va_up (va_up g.2.2 g.1 _) g.1 _ z = _
      rw [vu_ot (by omega), vu_ot (by omega)]
    · have := nn_up (q := g.1) ha hrw
      show g.1 + 1 + nn (va_up K.2.2.2.2 (st % 16) (some g.1)) = _
      omega
    · have := nn_up (q := g.1) ha hrw
      show g.2.1 + 2400 + 2400 * nn (va_up K.2.2.2.2 (st % 16) (some g.1)) = _
      omega
    · show 171 ≤ g.1 + 1
      omega
    · intro a ha2 z hz
      by_cases e : a = st % 16
      · subst e
        have hz : some g.1 = some z := vu_at.symm.trans hz
        cases hz
        refine ⟨Or.inr t171, show g.1 < g.1 + 1 by omega, f, hg_eq, fun s hs h => ?_⟩
        have h : upd (K.2.1 102) (st % 16) (nI st) (st % 16) = nI s := h
        rw [upd_at] at h
        have := (nI_eq (by omega) hs).mp h
        subst this
        exact hf
      · have hz : K.2.2.2.2 a = some z := (vu_ot e).symm.trans hz
        obtain ⟨h2, h3, f2, h4, h5⟩ := trow a ha2 z hz
        refine ⟨h2, show z < g.1 + 1 by omega, f2, ?_, fun s hs h => h5 s hs ?_⟩
        · show va_up (va_up g.2.2 g.1 _) g.1 _ z = _
          rw [vu_ot (by omega), vu_ot (by omega)]
          exact h4
        · have h : upd (K.2.1 102) (st % 16) (nI st) a = nI s := h
          rw [upd_ne e] at h
          exact h
    · intro a b z ha2 hb2 hza hzb
      have hza : va_up K.2.2.2.2 (st % 16) (some g.1) a = some z := hza
      have hzb : va_up K.2.2.2.2 (st % 16) (some g.1) b = some z := hzb
      by_cases e : a = st % 16
      · by_cases e2 : b = st % 16
        · omega
        · rw [vu_ot e2] at hzb
          rw [e, vu_at] at hza
          cases hza
          have := (trow b hb2 _ hzb).2.1
          omega
      · by_cases e2 : b = st % 16
        · rw [vu_ot e] at hza
          rw [e2, vu_at] at hzb
          cases hzb
          have := (trow a ha2 _ hza).2.1
          omega
        · rw [vu_ot e] at hza
          rw [vu_ot e2] at hzb
          exact tinj a b z ha2 hb2 hza hzb
    · intro a ha2 hz
      have hz : va_up K.2.2.2.2 (st % 16) (some g.1) a = none := hz
      by_cases e : a = st % 16
      · rw [e, vu_at] at hz; cases hz
      · rw [vu_ot e] at hz
        show upd (K.2.1 102) (st % 16) (nI st) a = -1
        rw [upd_ne e]
        exact tnone a ha2 hz
  | some q8 =>
    obtain ⟨r1, r2, f0, r3, r4⟩ := trow _ ha q8 hrw
    refine aw rfl rfl ?_
    refine aw_getf rfl cg_100 rfl ?_
    refine aw rfl rfl ?_
    refine aw_aald rfl cg_101 rfl ha (by decide) hrw ?_
    refine aw rfl rfl ?_
    refine l_turn2 (f0 := f0) hp hr3 hG hW hL ha (by omega) hrw r1 r3 (fun z => r4 st (by omega) z) (fun f v0 v1 hf => ?_)
    refine q _ v0 v1 _ q8 f ⟨fun z h2 h3 => vu_ot (by rcases r1 with h | h <;> omega), rfl, rfl⟩ ⟨rfl, fun j hj => vu_ot hj, rfl, rfl⟩ ⟨t171, ?_, tinj, ?_⟩ r1 hg_eq (hRW f hf)
    · intro a ha2 z hz
      by_cases e : a = st % 16
      · subst e
        have hz := hrw.symm.trans hz
        cases hz
        refine ⟨r1, r2, f, hg_eq, fun s hs h => ?_⟩
        have h : upd (K.2.1 102) (st % 16) (nI st) (st % 16) = nI s := h
        rw [upd_at] at h
        have := (nI_eq (by omega) hs).mp h
        subst this
        exact hf
      · obtain ⟨h2, h3, f2, h4, h5⟩ := trow a ha2 z hz
        refine ⟨h2, h3, f2, (vu_ot (fun y => e (tinj a _ z ha2 ha hz (by rw [y]; exact hrw)))).trans h4, fun s hs h => h5 s hs ?_⟩
        have h : upd (K.2.1 102) (st % 16) (nI st) a = nI s := h
        rw [upd_ne e] at h
        exact h
    · intro a ha2 hz
      show upd (K.2.1 102) (st % 16) (nI st) a = -1
      rw [upd_ne (fun y => by rw [y, hrw] at hz; cases hz)]
      exact tnone a ha2 hz
end C1
