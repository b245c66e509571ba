theorem bI_t : bI true = nI 1 := rfl
theorem bI_f : bI false = nI 0 := rfl
/-! ===== the class: the lies listed ===== -/
def selB (T : Sd) (b : Bool) (l : Nat) : Bool := decide (l < 96 ∧ l / 3 % 8 < T.1 0 ∧ l / 3 / 8 < T.1 1 ∧ l % 3 < T.1 2 ∧ ¬ T.2 0 (l / 3) = nI 4 ∧ ¬ T.2 0 (l / 3) = nI 5) && (hm T l == b)
theorem selB_iff {T : Sd} {b : Bool} {l : Nat} : selB T b l = true ↔ lieOK T l ∧ hm T l = b := by
  unfold selB
  rw [Bool.and_eq_true, decide_eq_true_iff, beq_iff_eq]
  exact Iff.rfl
theorem ct_s {P : Nat → Bool} {n : Nat} : ctN P (n + 1) = ctN P n + (bif P n then 1 else 0) := rfl
theorem ct_yes {P : Nat → Bool} {n : Nat} (h : P n = true) : ctN P (n + 1) = ctN P n + 1 := by rw [ct_s, h]; rfl
theorem ct_no {P : Nat → Bool} {n : Nat} (h : P n = false) : ctN P (n + 1) = ctN P n := by rw [ct_s, h]; rfl
theorem ct_mono {P : Nat → Bool} {n : Nat} : ∀ d, ctN P n ≤ ctN P (n + d) := by
  intro d
  induction d with
  | zero => exact Nat.le_refl _
  | succ d ih =>
    rw [← Nat.add_assoc, ct_s]
    omega
theorem ct_two {T : Sd} : ∀ n, ctN (selB T false) n + ctN (selB T true) n ≤ n := by
  intro n
  induction n with
  | zero => exact Nat.le_refl _
  | succ n ih =>
    cases h1 : selB T false n with
    | false =>
      rw [ct_no h1, ct_s]
      cases selB T true n <;> simp <;> omega
    | true =>
      have h2 : selB T true n = false := Bool.eq_false_iff.mpr (fun z => by
        have e1 := (selB_iff.mp h1).2
        have e2 := (selB_iff.mp z).2
        rw [e1] at e2
        exact absurd e2 (by decide))
      rw [ct_yes h1, ct_no h2]
      omega
theorem lie_can {T : Sd} {l : Nat} (hG : GS T) (hl : l < 96) : lieOK T l ↔ l % 3 < T.1 2 ∧ ¬ T.2 0 (l / 3) = -1 ∧ ¬ T.2 0 (l / 3) = nI 4 ∧ ¬ T.2 0 (l / 3) = nI 5 := by
  obtain ⟨⟨g0, g0x⟩, ⟨g1, g1x⟩, ⟨g2, g2x⟩, ⟨g3, g3x⟩, g4, ⟨g5, g5x⟩, g6, gsq, goc, gwt, gsp, gfr⟩ := hG
  have hq := gsq (l / 3) (by omega)
  constructor
  · rintro ⟨h1, h2, h3, h4, h5, h6⟩
    obtain ⟨z, hz, e⟩ := hq.1 ⟨h2, h3⟩
    exact ⟨h4, by rw [e]; exact n_m1 (by omega), h5, h6⟩
  · rintro ⟨h1, h2, h3, h4⟩
    by_cases e : l / 3 % 8 < T.1 0 ∧ l / 3 / 8 < T.1 1
    · exact ⟨hl, e.1, e.2, h1, h3, h4⟩
    · exact absurd (hq.2 (by omega)) h2
section C1
variable {g : am_H} {T0 T1 T : Sd} {u0 u1 : Ua} {K : Ck} {rf : Nat → Nat} {p : Nat} {LW : LWt} {S : Nat → Nat} {u td nt cc : Nat} {P Z : Nat → Nat → Nat} {TD : Nat → Nat} {hd : Nat → Bool} {tp : Nat → Int32} {pc : Int32}
theorem c_X8_listLies {Q : Option Value → am_H → Prop} (hp : SP2 p T T0 T1) (hG : GS T) (hr3 : rf 3 = p) {b : Bool} {c0 : Nat} {lf0 : Nat → Nat} (h19 : K.1 19 = nI c0) (hc : c0 + ctN (selB T b) 96 ≤ 96) (hl0 : ∀ j, j < c0 → K.2.1 104 j = nI (lf0 j)) (q : ∀ (y : Nat → Int32) (f : Nat → Nat), (∀ j, j < (c0 + ctN (selB T b) 96) → y j = nI (f j)) ∧ (∀ j, j < c0 → f j = lf0 j) ∧ (∀ j, c0 ≤ j → j < (c0 + ctN (selB T b) 96) → f j < 96 ∧ lieOK T (f j) ∧ hm T (f j) = b) ∧ (∀ j j9, c0 ≤ j → j < j9 → j9 < (c0 + ctN (selB T b) 96) → f j < f j9) ∧ (∀ l, l < 96 → lieOK T l → hm T l = b → ∃ j, c0 ≤ j ∧ j < (c0 + ctN (selB T b) 96) ∧ f j = l) → Q none (ch g T0 u0 T1 u1 (va_up K.1 19 (nI (c0 + ctN (selB T b) 96)), va_up K.2.1 104 y, K.2.2) rf)) : AC am_P 2 43 112 [.ref 100, .int (bI b)] (ch g T0 u0 T1 u1 K rf) Q := by
  refine AC.of (ls := [_, _, _]) rfl ?_
  have hG0 := hG
  obtain ⟨⟨g0, g0x⟩, ⟨g1, g1x⟩, ⟨g2, g2x⟩, ⟨g3, g3x⟩, g4, ⟨g5, g5x⟩, g6, gsq, goc, gwt, gsp, gfr⟩ := hG
  refine aw_c (v := nI 0) rfl (by decide) ?_
  refine aw_ist (ls' := [_, _, _]) rfl rfl ?_
  refine (show AW am_P 2 43 112 2 [some (.ref 100), some (.int (bI b)), some (.int (nI 0))] [] (ch g T0 u0 T1 u1 (va_up K.1 19 (nI (c0 + ctN (selB T b) 0)), va_up K.2.1 104 (K.2.1 104), K.2.2) rf) Q → _ from fun z => by rw [va_self0, show nI (c0 + ctN (selB T b) 0) = K.1 19 from h19.symm, va_self0] at z; exact z) ?_
  refine aw_loop (α := (Nat → Int32) × (Nat → Nat)) (ll := fun i y => [some (.ref 100), some (.int (bI b)), some (.int (nI i))]) (hh := fun i y => (ch g T0 u0 T1 u1 (va_up K.1 19 (nI (c0 + ctN (selB T b) i)), va_up K.2.1 104 y.1, K.2.2) rf)) (I := fun i y => (∀ j, j < (c0 + ctN (selB T b) i) → y.1 j = nI (y.2 j)) ∧ (∀ j, j < c0 → y.2 j = lf0 j) ∧ (∀ j, c0 ≤ j → j < (c0 + ctN (selB T b) i) → y.2 j < i ∧ lieOK T (y.2 j) ∧ hm T (y.2 j) = b) ∧ (∀ j j9, c0 ≤ j → j < j9 → j9 < (c0 + ctN (selB T b) i) → y.2 j < y.2 j9) ∧ (∀ l, l < i → lieOK T l → hm T l = b → ∃ j, c0 ≤ j ∧ j < (c0 + ctN (selB T b) i) ∧ y.2 j = l)) (N := 96) (fun i y hi hI ih => ?_) (fun y hI => ?_) 0 (K.2.1 104, lf0) (Nat.zero_le _) ⟨hl0, fun _ _ => rfl, fun j h1 h2 => absurd h2 (by show ¬ j < c0 + 0; omega), fun j j9 h1 h2 h3 => absurd h3 (by show ¬ j9 < c0 + 0; omega), fun l h => absurd h (Nat.not_lt_zero _)⟩
  · skip
    obtain ⟨y, f⟩ := y
    obtain ⟨i1, i2, i3, i4, i5⟩ := hI
    dsimp only at i1 i2 i3 i4 i5 ⊢
    refine aw rfl rfl ?_
    refine aw_c (v := nI 96) rfl (by decide) ?_
    refine aw_igen rfl (fun c5 => by omega) (fun c5 => ?_)
    refine aw rfl rfl ?_
    refine aw_c (v := nI 3) rfl (by decide) ?_
    refine aw_remn rfl (by omega) (by omega) (by omega) ?_
    refine aw rfl rfl ?_
    refine aw_getfE rfl cg_100 rfl (congrArg Value.ref hr3) ?_
    refine aw_getf rfl (sa hp).1 rfl ?_
    refine aw_igen rfl (fun c18 => ?_) (fun c18 => ?_)
    · refine aw_incn (c := 1) (ls' := [_, _, _]) rfl rfl (by decide) rfl ?_
      refine aw rfl rfl ?_
      have hse : selB T b i = false := Bool.eq_false_iff.mpr (fun z => by have z9 := selB_iff.mp z; have := z9.1.2.2.2.1; omega)
      have ih := ih (y, f)
      simp only [ct_no hse] at ih
      exact ih ⟨i1, i2, fun j h1 h2 => ⟨by have := (i3 j h1 h2).1; omega, (i3 j h1 h2).2⟩, i4, fun l h1 h2 h3 => by
        by_cases e : l = i
        · subst e; exact absurd (selB_iff.mpr ⟨h2, h3⟩) (by rw [hse]; decide)
        · exact i5 l (by omega) h2 h3⟩
    · refine aw rfl rfl ?_
      refine aw_getfE rfl cg_100 rfl (congrArg Value.ref hr3) ?_
      refine aw rfl rfl ?_
      refine aw_c (v := nI 3) rfl (by decide) ?_
      refine aw_divn rfl (by omega) (by omega) (by omega) ?_
      refine aw_cv (d1 := 1) (L1 := 21) rfl rfl (sa hp).1 rfl rfl (by decide) (by decide) (Nat.le_of_ble_eq_true rfl) (c_X7_canLie (sa hp) (by omega) (fun a1 a2 a3 => ?_) (fun a0 => ?_))
      · refine aw_eq rfl (fun c => absurd c (by decide)) (fun _ => ?_)
        refine aw rfl rfl ?_
        refine aw_getfE rfl cg_100 rfl (congrArg Value.ref hr3) ?_
        refine aw rfl rfl ?_
        refine aw_cv (d1 := 1) (L1 := 21) rfl rfl (sa hp).1 rfl rfl (by decide) (by decide) (Nat.le_of_ble_eq_true rfl) (c_X7_isHomeLie (sa hp) hi (fun hz => ?_) (fun hz => ?_))
        · refine aw rfl rfl ?_
          refine aw_ine rfl (fun c43 => ?_) (fun c43 => ?_)
          · have hht : hm T i = true := decide_eq_true hz
            refine aw_incn (c := 1) (ls' := [_, _, _]) rfl rfl (by decide) rfl ?_
            refine aw rfl rfl ?_
            have hse : selB T b i = false := Bool.eq_false_iff.mpr (fun z => by have z9 := selB_iff.mp z; rw [z9.2] at hht; subst hht; exact c43 rfl)
            have ih := ih (y, f)
            simp only [ct_no hse] at ih
            exact ih ⟨i1, i2, fun j h1 h2 => ⟨by have := (i3 j h1 h2).1; omega, (i3 j h1 h2).2⟩, i4, fun l h1 h2 h3 => by
              by_cases e : l = i
              · subst e; exact absurd (selB_iff.mpr ⟨h2, h3⟩) (by rw [hse]; decide)
              · exact i5 l (by omega) h2 h3⟩
          · have hli : lieOK T i := (lie_can hG0 hi).mpr ⟨by omega, a1, a2, a3⟩
            have hht : hm T i = true := decide_eq_true hz
            have hhb : hm T i = b := by rw [hht]; cases b <;> first | rfl | exact absurd c43 (by decide)
            have hse : selB T b i = true := selB_iff.mpr ⟨hli, hhb⟩
            have hm9 := ct_mono (P := selB T b) (n := i + 1) (95 - i)
            rw [show i + 1 + (95 - i) = 96 by omega, ct_yes hse] at hm9
            have hup : (c0 + ctN (selB T b) (i + 1)) = (c0 + ctN (selB T b) i) + 1 := by rw [ct_yes hse]; rfl
            refine aw rfl rfl ?_
            refine aw_getf rfl cg_100 rfl ?_
            refine aw rfl rfl ?_
            refine aw_getfE rfl cg_100 rfl (congrArg Value.int (show va_up K.1 19 _ 19 = _ from vu_at)) ?_
            refine aw rfl rfl ?_
            refine aw_iastU rfl cg_104 rfl (by omega) (by decide) (by decide) cu_104 ?_
            refine aw rfl rfl ?_
            refine aw rfl rfl ?_
            refine aw_getfE rfl cg_100 rfl (congrArg Value.int (show va_up K.1 19 _ 19 = _ from vu_at)) ?_
            refine aw_c (v := nI 1) rfl (by decide) ?_
            refine aw_addn rfl ?_
            refine aw_putfU rfl cg_100 rfl rfl (by decide) cp_100_6 ?_
            refine aw_incn (c := 1) (ls' := [_, _, _]) rfl rfl (by decide) rfl ?_
            refine aw rfl rfl ?_
            rw [va_twice (h := fun f9 => upd f9 (c0 + ctN (selB T b) i) (nI i)), va_two]
            have ih := ih (upd y (c0 + ctN (selB T b) i) (nI i), (fun j => if j = (c0 + ctN (selB T b) i) then i else f j))
            rw [hup] at ih
            refine ih ⟨fun j h1 => ?_, fun j h1 => ?_, fun j h1 h2 => ?_, fun j j9 h1 h2 h3 => ?_, fun l h1 h2 h3 => ?_⟩
            · dsimp only
              by_cases e : j = (c0 + ctN (selB T b) i)
              · rw [if_pos e, e, upd_at]
              · rw [if_neg e, upd_ne e]; exact i1 j (by omega)
            · dsimp only
              rw [if_neg (by omega)]; exact i2 j h1
            · dsimp only
              by_cases e : j = (c0 + ctN (selB T b) i)
              · rw [if_pos e]; exact ⟨by omega, hli, hhb⟩
              · rw [if_neg e]; have h9 := i3 j h1 (by omega); exact ⟨by omega, h9.2⟩
            · dsimp only
              rw [if_neg (show ¬ j = (c0 + ctN (selB T b) i) by omega)]
              by_cases e : j9 = (c0 + ctN (selB T b) i)
              · rw [if_pos e]; exact (i3 j h1 (by omega)).1
              · rw [if_neg e]; exact i4 j j9 h1 h2 (by omega)
            · dsimp only
              by_cases e : l = i
              · exact ⟨(c0 + ctN (selB T b) i), by omega, by omega, by rw [if_pos rfl, e]⟩
              · obtain ⟨j, h4, h5, h6⟩ := i5 l (by omega) h2 h3
                exact ⟨j, h4, by omega, by rw [if_neg (by omega)]; exact h6⟩
        · refine aw rfl rfl ?_
          refine aw_ine rfl (fun c43 => ?_) (fun c43 => ?_)
          · have hht : hm T i = false := decide_eq_false hz
            refine aw_incn (c := 1) (ls' := [_, _, _]) rfl rfl (by decide) rfl ?_
            refine aw rfl rfl ?_
            have hse : selB T b i = false := Bool.eq_false_iff.mpr (fun z => by have z9 := selB_iff.mp z; rw [z9.2] at hht; subst hht; exact c43 rfl)
            have ih := ih (y, f)
            simp only [ct_no hse] at ih
            exact ih ⟨i1, i2, fun j h1 h2 => ⟨by have := (i3 j h1 h2).1; omega, (i3 j h1 h2).2⟩, i4, fun l h1 h2 h3 => by
              by_cases e : l = i
              · subst e; exact absurd (selB_iff.mpr ⟨h2, h3⟩) (by rw [hse]; decide)
              · exact i5 l (by omega) h2 h3⟩
          · have hli : lieOK T i := (lie_can hG0 hi).mpr ⟨by omega, a1, a2, a3⟩
            have hht : hm T i = false := decide_eq_false hz
            have hhb : hm T i = b := by rw [hht]; cases b <;> first | rfl | exact absurd c43 (by decide)
            have hse : selB T b i = true := selB_iff.mpr ⟨hli, hhb⟩
            have hm9 := ct_mono (P := selB T b) (n := i + 1) (95 - i)
            rw [show i + 1 + (95 - i) = 96 by omega, ct_yes hse] at hm9
            have hup : (c0 + ctN (selB T b) (i + 1)) = (c0 + ctN (selB T b) i) + 1 := by rw [ct_yes hse]; rfl
            refine aw rfl rfl ?_
            refine aw_getf rfl cg_100 rfl ?_
            refine aw rfl rfl ?_
            refine aw_getfE rfl cg_100 rfl (congrArg Value.int (show va_up K.1 19 _ 19 = _ from vu_at)) ?_
            refine aw rfl rfl ?_
            refine aw_iastU rfl cg_104 rfl (by omega) (by decide) (by decide) cu_104 ?_
            refine aw rfl rfl ?_
            refine aw rfl rfl ?_
            refine aw_getfE rfl cg_100 rfl (congrArg Value.int (show va_up K.1 19 _ 19 = _ from vu_at)) ?_
            refine aw_c (v := nI 1) rfl (by decide) ?_
            refine aw_addn rfl ?_
            refine aw_putfU rfl cg_100 rfl rfl (by decide) cp_100_6 ?_
            refine aw_incn (c := 1) (ls' := [_, _, _]) rfl rfl (by decide) rfl ?_
            refine aw rfl rfl ?_
            rw [va_twice (h := fun f9 => upd f9 (c0 + ctN (selB T b) i) (nI i)), va_two]
            have ih := ih (upd y (c0 + ctN (selB T b) i) (nI i), (fun j => if j = (c0 + ctN (selB T b) i) then i else f j))
            rw [hup] at ih
            refine ih ⟨fun j h1 => ?_, fun j h1 => ?_, fun j h1 h2 => ?_, fun j j9 h1 h2 h3 => ?_, fun l h1 h2 h3 => ?_⟩
            · dsimp only
              by_cases e : j = (c0 + ctN (selB T b) i)
              · rw [if_pos e, e, upd_at]
              · rw [if_neg e, upd_ne e]; exact i1 j (by omega)
            · dsimp only
              rw [if_neg (by omega)]; exact i2 j h1
            · dsimp only
              by_cases e : j = (c0 + ctN (selB T b) i)
              · rw [if_pos e]; exact ⟨by omega, hli, hhb⟩
              · rw [if_neg e]; have h9 := i3 j h1 (by omega); exact ⟨by omega, h9.2⟩
            · dsimp only
              rw [if_neg (show ¬ j = (c0 + ctN (selB T b) i) by omega)]
              by_cases e : j9 = (c0 + ctN (selB T b) i)
              · rw [if_pos e]; exact (i3 j h1 (by omega)).1
              · rw [if_neg e]; exact i4 j j9 h1 h2 (by omega)
            · dsimp only
              by_cases e : l = i
              · exact ⟨(c0 + ctN (selB T b) i), by omega, by omega, by rw [if_pos rfl, e]⟩
              · obtain ⟨j, h4, h5, h6⟩ := i5 l (by omega) h2 h3
                exact ⟨j, h4, by omega, by rw [if_neg (by omega)]; exact h6⟩
      · refine aw_eq rfl (fun _ => ?_) (fun c => absurd (by decide) c)
        refine aw_incn (c := 1) (ls' := [_, _, _]) rfl rfl (by decide) rfl ?_
        refine aw rfl rfl ?_
        have hse : selB T b i = false := Bool.eq_false_iff.mpr (fun z => by have z9 := selB_iff.mp z; have z8 := (lie_can hG0 hi).mp z9.1; exact a0.elim z8.2.1 (fun w => w.elim z8.2.2.1 z8.2.2.2))
        have ih := ih (y, f)
        simp only [ct_no hse] at ih
        exact ih ⟨i1, i2, fun j h1 h2 => ⟨by have := (i3 j h1 h2).1; omega, (i3 j h1 h2).2⟩, i4, fun l h1 h2 h3 => by
          by_cases e : l = i
          · subst e; exact absurd (selB_iff.mpr ⟨h2, h3⟩) (by rw [hse]; decide)
          · exact i5 l (by omega) h2 h3⟩
  · skip
    obtain ⟨y, f⟩ := y
    obtain ⟨i1, i2, i3, i4, i5⟩ := hI
    dsimp only at i1 i2 i3 i4 i5 ⊢
    refine aw rfl rfl ?_
    refine aw_c (v := nI 96) rfl (by decide) ?_
    refine aw_igen rfl (fun c5 => ?_) (fun c5 => by omega)
    exact aw_vret rfl rfl (q y f ⟨i1, i2, i3, i4, i5⟩)
end C1
