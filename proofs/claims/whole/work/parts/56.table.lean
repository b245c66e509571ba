/-! ===== the class: the table of landings ===== -/
theorem n_land_cg {T : Sd} {LW LW' : LWt} {l way : Nat} {x : Int32} (h : ∀ i, i < 3 → LW i = LW' i) : n_land T LW l way x = n_land T LW' l way x := by
  have h0 := h 0 (by decide)
  have h1 := h 1 (by decide)
  have h2 := h 2 (by decide)
  unfold n_land n_lnd n_a2 n_c1 n_a1 n_lw n_car
  rw [h0, h1, h2]
/-- laws that do not look at the second -/
def UT (T : Sd) (LW : LWt) : Prop := T.1 8 = 0 → ∀ i, i < 3 → ∀ a b c d e f x y, LW i a b c d e f x = LW i a b c d e f y
theorem n_land_ut {T : Sd} {LW : LWt} {l way : Nat} {x y : Int32} (h : UT T LW) (h0 : T.1 8 = 0) : n_land T LW l way x = n_land T LW l way y := by
  have e : ∀ i, i < 3 → LW i = (fun i a b c d e f (_ : Int32) => LW i a b c d e f 0 : LWt) i := fun i hi => by
    funext a b c d e f x
    exact h h0 i hi _ _ _ _ _ _ _ _
  rw [n_land_cg e, n_land_cg (x := y) e]
  rfl
theorem nck_iff {T : Sd} {l j : Nat} (hG : GS T) (hl : lieOK T l) (hh : hm T l = false) (hj : j < T.1 3) : n_ck T (l / 3) j ↔ mck T l j = true := by
  obtain ⟨⟨g0, g0x⟩, ⟨g1, g1x⟩, ⟨g2, g2x⟩, ⟨g3, g3x⟩, g4, ⟨g5, g5x⟩, g6, gsq, goc, gwt, gsp, gfr⟩ := hG
  have hl96 := hl.1
  obtain ⟨z, hz, e⟩ := (gsq (l / 3) (by omega)).1 ⟨hl.2.1, hl.2.2.1⟩
  have h4 := hl.2.2.2.2.1
  have h5 := hl.2.2.2.2.2
  have h6 : ¬ T.2 0 (l / 3) = nI 6 := of_decide_eq_false hh
  have ho := (goc j hj).1
  have ho6 := (goc j hj).2.2.1
  rw [e] at h4 h5 h6
  have e4 : z ≠ 4 := fun y => h4 (congrArg nI y)
  have e5 : z ≠ 5 := fun y => h5 (congrArg nI y)
  have e6 : z ≠ 6 := fun y => h6 (congrArg nI y)
  rw [mck_iff]
  unfold n_ck m_ck
  rw [e, ho]
  constructor
  · rintro ⟨_, h | h⟩
    · exact Or.inl (fun y => by rw [y] at h; exact absurd h (by decide))
    · exact Or.inr ((nI_eq (by omega) (by decide)).mp h.2)
  · intro h
    refine ⟨n_m1 (by omega), ?_⟩
    by_cases e3 : z = 3
    · subst e3
      rcases h with h | h
      · exact absurd rfl h
      · exact Or.inr ⟨rfl, congrArg nI h⟩
    · exact Or.inl (nI_lt (by omega) (by decide))
theorem nck_home {T : Sd} {l j : Nat} (hh : hm T l = true) : ¬ n_ck T (l / 3) j := by
  have h : T.2 0 (l / 3) = nI 6 := of_decide_eq_true hh
  unfold n_ck
  rw [h]
  rintro ⟨_, h1 | h1⟩
  · exact absurd h1 (by decide)
  · exact absurd h1.1 (by decide)
/-- the lies, those that are open first -/
def LLr (T : Sd) (K : Ck) (no na : Nat) (lf : Nat → Nat) : Prop := na ≤ 96 ∧ no ≤ na ∧ K.1 18 = nI no ∧ K.1 19 = nI na ∧ (∀ i, i < na → K.2.1 104 i = nI (lf i) ∧ lieOK T (lf i)) ∧ (∀ i, i < no → hm T (lf i) = false) ∧ (∀ i, no ≤ i → i < na → hm T (lf i) = true) ∧ (∀ i j, i < no → j < no → lf i = lf j → i = j) ∧ (∀ l, lieOK T l → hm T l = false → ∃ i, i < no ∧ lf i = l) ∧ (∀ l, lieOK T l → hm T l = true → ∃ i, no ≤ i ∧ i < na ∧ lf i = l)
/-- the ways of an action from there -/
def vwA (T : Sd) (l a way : Nat) : Prop := (a = T.1 3 ∧ way = 24) ∨ (a < T.1 3 ∧ mck T l a = true ∧ ∃ o, o < oc T a ∧ way = 6 * a + o)
def vw (T : Sd) (l way : Nat) : Prop := ∃ a, vwA T l a way
def RWc (T : Sd) (LW : LWt) (f : Nat → Int32) (x : Int32) : Prop := ∀ l, lieOK T l → hm T l = false → ∀ way, vw T l way → f (l * 25 + way) = n_land T LW l way x
def rowP (q : Nat) : Prop := q = 103 ∨ 171 ≤ q
theorem rowP.o {q : Nat} (h : rowP q) : q = 103 ∨ 121 ≤ q := h.elim Or.inl (fun z => Or.inr (by omega))
def TB (T : Sd) (LW : LWt) (g : am_H) (K : Ck) : Prop := 171 ≤ g.1 ∧ (∀ a, a < 16 → ∀ q, K.2.2.2.2 a = some q → rowP q ∧ q < g.1 ∧ ∃ f, g.2.2 q = am_ints 2400 f ∧ ∀ s : Nat, s < 2147483648 → K.2.1 102 a = nI s → RWc T LW f (nI (s * T.1 5))) ∧ (∀ a b q, a < 16 → b < 16 → K.2.2.2.2 a = some q → K.2.2.2.2 b = some q → a = b) ∧ (∀ a, a < 16 → K.2.2.2.2 a = none → K.2.1 102 a = -1)
def nn (r : Nat → Option Nat) : Nat := ctN (fun i => (r i).isNone) 16
/-- the heap outside keeps all but rows of the table -/
def GX (g g' : am_H) (r r' : Nat → Option Nat) : Prop := (∀ q, q < 171 → q ≠ 103 → g'.2.2 q = g.2.2 q) ∧ g'.1 + nn r' = g.1 + nn r ∧ g'.2.1 + 2400 * nn r' = g.2.1 + 2400 * nn r
theorem GX.rf {g : am_H} {r : Nat → Option Nat} : GX g g r r := ⟨fun _ _ _ => rfl, rfl, rfl⟩
theorem GX.tr {g g1 g2 : am_H} {r r1 r2 : Nat → Option Nat} (h : GX g g1 r r1) (h1 : GX g1 g2 r1 r2) : GX g g2 r r2 := ⟨fun q h2 h3 => (h1.1 q h2 h3).trans (h.1 q h2 h3), h1.2.1.trans h.2.1, h1.2.2.trans h.2.2⟩
/-- K but for the steps and rows of the table -/
def KT (K K' : Ck) : Prop := K'.1 = K.1 ∧ (∀ j, j ≠ 102 → K'.2.1 j = K.2.1 j) ∧ K'.2.2.1 = K.2.2.1 ∧ K'.2.2.2.1 = K.2.2.2.1
theorem KT.tr {K K1 K2 : Ck} (h : KT K K1) (h1 : KT K1 K2) : KT K K2 := ⟨h1.1.trans h.1, fun j hj => (h1.2.1 j hj).trans (h.2.1 j hj), h1.2.2.1.trans h.2.2.1, h1.2.2.2.trans h.2.2.2⟩
theorem LLr.kt {T : Sd} {K K' : Ck} {no na : Nat} {lf : Nat → Nat} (h : LLr T K no na lf) (hk : KT K K') : LLr T K' no na lf := by
  unfold LLr
  rw [hk.1, hk.2.1 104 (by decide)]
  exact h
section C1
variable {g : am_H} {T0 T1 T : Sd} {u0 u1 : Ua} {K : Ck} {rf : Nat → Nat} {p : Nat} {LW : LWt} {S : Nat → Nat} {u td nt cc : Nat} {P Z : Nat → Nat → Nat} {TD : Nat → Nat} {hd : Nat → Bool} {tp : Nat → Int32} {pc : Int32}
variable {no na : Nat} {lf : Nat → Nat}
theorem c_land {Q : Option Value → am_H → Prop} (hp : SP2 p T T0 T1) (hG : GS T) (hW : LWs T LW) {l way : Nat} {x : Int32} (hl : l < 96) (hw : way = 24 ∨ ∃ j o, j < T.1 3 ∧ o < oc T j ∧ way = 6 * j + o) (q : ∀ u0 u1, Q (some (.int (n_land T LW l way x))) (ch g T0 u0 T1 u1 K rf)) : AC am_P 3 70 104 [.ref p, .int (nI l), .int (nI way), .int x] (ch g T0 u0 T1 u1 K rf) Q := by
  have hG0 := hG
  obtain ⟨⟨g0, g0x⟩, ⟨g1, g1x⟩, ⟨g2, g2x⟩, ⟨g3, g3x⟩, g4, ⟨g5, g5x⟩, g6, gsq, goc, gwt, gsp, gfr⟩ := hG
  have hw24 : way ≤ 24 := by
    rcases hw with h | ⟨j, o, h1, h2, h3⟩
    · omega
    · have := (goc j h1).2.2.1; omega
  refine c_X7_landing (p_8 hp) (sa hp) (sx_c hp) hW hl hw24 ⟨g0, g0x⟩ ⟨g2, g2x⟩ (fun h => ?_) (fun h1 hx => ?_)
  · rcases hw with h9 | ⟨j, o, h1, h2, h3⟩
    · omega
    · obtain ⟨t, ht, e⟩ := ((goc j h1).2.2.2.2 o h2).2.2.2
      exact ⟨t, by omega, by rw [h3]; exact e⟩
  · obtain ⟨v0, v1, rfl⟩ := fx_c hp hx
    exact q v0 v1
theorem c_cars {Q : Option Value → am_H → Prop} (hp : SP2 p T T0 T1) (hW : LWs T LW) {s : Nat} {x : Int32} (hs : s < 32) (q1 : ∀ u0 u1, n_car T LW s x → Q (some (.int (nI 1))) (ch g T0 u0 T1 u1 K rf)) (q0 : ∀ u0 u1, ¬ n_car T LW s x → Q (some (.int (nI 0))) (ch g T0 u0 T1 u1 K rf)) : AC am_P 2 48 95 [.ref p, .int (nI s), .int x] (ch g T0 u0 T1 u1 K rf) Q := by
  refine c_X7_carsCome (p_8 hp) (sa hp) (sx_c hp) hW hs (fun h1 hx h => ?_) (fun h1 hx h => ?_)
  · obtain ⟨v0, v1, rfl⟩ := fx_c hp hx
    exact q1 v0 v1 h
  · obtain ⟨v0, v1, rfl⟩ := fx_c hp hx
    exact q0 v0 v1 h
theorem c_timed {Q : Option Value → am_H → Prop} (hp : SP2 p T T0 T1) (h8 : T.1 8 < 2147483648) (q1 : ¬ T.1 8 = 0 → Q (some (.int (nI 1))) (ch g T0 u0 T1 u1 K rf)) (q0 : T.1 8 = 0 → Q (some (.int (nI 0))) (ch g T0 u0 T1 u1 K rf)) : AC am_P 0 0 27 [.ref (p + 7)] (ch g T0 u0 T1 u1 K rf) Q := by
  refine AC.of (ls := [_]) rfl ?_
  obtain ⟨w, s7⟩ := (sa (g := g) (u0 := u0) (u1 := u1) (K := K) (rf := rf) hp).2.2.2.2.2.2.2.1
  refine aw rfl rfl ?_
  refine aw_getf rfl (by repeat first | assumption | exact hg_eq | refine hg_ne (by first | assumption | omega) ?_) rfl ?_
  refine aw_eqn rfl (fun c4 => ?_) (fun c4 => ?_)
  · refine aw_c (v := nI 0) rfl (by decide) ?_
    exact aw_iret rfl rfl (q0 c4)
  · refine aw_c (v := nI 1) rfl (by decide) ?_
    refine aw rfl rfl ?_
    exact aw_iret rfl rfl (q1 c4)
theorem c_X8_stepThatCounts {Q : Option Value → am_H → Prop} (hp : SP2 p T T0 T1) (hr3 : rf 3 = p) (h8 : T.1 8 < 2147483648) {w : Nat} (q : Q (some (.int (nI (if T.1 8 = 0 then 0 else w)))) (ch g T0 u0 T1 u1 K rf)) : AC am_P 1 20 113 [.ref 100, .int (nI w)] (ch g T0 u0 T1 u1 K rf) Q := by
  refine AC.of (ls := [_, _]) rfl ?_
  refine aw rfl rfl ?_
  refine aw_getfE rfl cg_100 rfl (congrArg Value.ref hr3) ?_
  refine aw_getf rfl (sa hp).1 rfl ?_
  obtain ⟨w9, s7⟩ := (sa (g := g) (u0 := u0) (u1 := u1) (K := K) (rf := rf) hp).2.2.2.2.2.2.2.1
  refine aw_cv (d1 := 0) (L1 := 0) rfl rfl s7 rfl rfl (by decide) (by decide) (Nat.le_of_ble_eq_true rfl) (c_timed hp h8 (fun z => ?_) (fun z => ?_))
  · refine aw_eq rfl (fun c => absurd c (by decide)) (fun _ => ?_)
    refine aw rfl rfl ?_
    refine aw rfl rfl ?_
    exact aw_iret rfl rfl (by rw [if_neg z] at q; exact q)
  · refine aw_eq rfl (fun _ => ?_) (fun c => absurd (by decide) c)
    refine aw_c (v := nI 0) rfl (by decide) ?_
    exact aw_iret rfl rfl (by rw [if_pos z] at q; exact q)
theorem c_X8_landing {Q : Option Value → am_H → Prop} {q8 l way : Nat} {f : Nat → Int32} (hr8 : rf 8 = q8) (h8 : rowP q8) (hf : g.2.2 q8 = am_ints 2400 f) (hl : l < 96) (hw : way < 25) (q : Q (some (.int (f (l * 25 + way)))) (ch g T0 u0 T1 u1 K rf)) : AC am_P 0 0 115 [.ref 100, .int (nI l), .int (nI way)] (ch g T0 u0 T1 u1 K rf) Q := by
  refine AC.of (ls := [_, _, _, _]) rfl ?_
  have hrow : (ch g T0 u0 T1 u1 K rf).2.2 q8 = .inr (0, 2400, .inl f) := (cg_row h8.o).trans hf
  refine aw rfl rfl ?_
  refine aw_c (v := nI 25) rfl (by decide) ?_
  refine aw_muln rfl ?_
  refine aw rfl rfl ?_
  refine aw_addn rfl ?_
  refine aw_ist (ls' := [_, _, _, _]) rfl rfl ?_
  refine aw rfl rfl ?_
  refine aw_ltn rfl ?_
  refine aw rfl rfl ?_
  refine aw rfl rfl ?_
  refine aw_getfE rfl cg_100 rfl (congrArg Value.ref hr8) ?_
  refine aw_alen rfl (by repeat first | assumption | exact hg_eq | refine hg_ne (by first | assumption | omega) ?_) rfl ?_
  refine aw_igen rfl (fun c17 => by omega) (fun c17 => ?_)
  refine aw rfl rfl ?_
  refine aw_getfE rfl cg_100 rfl (congrArg Value.ref hr8) ?_
  refine aw rfl rfl ?_
  refine aw_iald rfl (by repeat first | assumption | exact hg_eq | refine hg_ne (by first | assumption | omega) ?_) rfl (by omega) (by decide) ?_
  refine aw rfl rfl ?_
  exact aw_iret rfl rfl q
end C1
