/-! ===== the reference: touches, faces, sides ===== -/
def tcK (T : Sd) (s : Nat) : Option Nat := if T.2 0 s = nI 4 ∨ T.2 0 s = nI 5 then none else some s
/-- the square to which a touch lays it -/
def tcS (T : Sd) (s way : Nat) : Option Nat := if way = 0 then (if s % 8 + 1 < T.1 0 then tcK T (s + 1) else none) else if way = 1 then (if 1 ≤ s % 8 then tcK T (s - 1) else none) else if way = 2 then (if s / 8 + 1 < T.1 1 then tcK T (s + 8) else none) else if way = 3 then (if 1 ≤ s / 8 then tcK T (s - 8) else none) else none
theorem tcK_some {T : Sd} {s u : Nat} (h : tcK T s = some u) : u = s ∧ ¬ T.2 0 s = nI 4 ∧ ¬ T.2 0 s = nI 5 := by
  unfold tcK at h
  by_cases h1 : T.2 0 s = nI 4 ∨ T.2 0 s = nI 5
  · rw [if_pos h1] at h; cases h
  · rw [if_neg h1] at h; cases h; exact ⟨rfl, fun z => h1 (Or.inl z), fun z => h1 (Or.inr z)⟩
theorem tcS_lie {T : Sd} {s way u f : Nat} (hG : GS T) (ha : s % 8 < T.1 0) (he : s / 8 < T.1 1) (hf : f < T.1 2) (h : tcS T s way = some u) : lieOK T (u * 3 + f) := by
  obtain ⟨⟨g0, g0x⟩, ⟨g1, g1x⟩, ⟨g2, g2x⟩, ⟨g3, g3x⟩, g4, ⟨g5, g5x⟩, g6, gsq, goc, gwt, gsp, gfr⟩ := hG
  unfold tcS at h
  have fin : ∀ z, tcK T z = some u → z % 8 < T.1 0 → z / 8 < T.1 1 → lieOK T (u * 3 + f) := fun z h1 h2 h3 => by
    obtain ⟨rfl, h4, h5⟩ := tcK_some h1
    have e : u / 8 * 8 + u % 8 = u := by omega
    have := lie_on h2 h3 hf g0x g1x g2x (by rw [e]; exact h4) (by rw [e]; exact h5)
    rw [e] at this
    exact this
  by_cases w0 : way = 0
  · rw [if_pos w0] at h
    by_cases h1 : s % 8 + 1 < T.1 0
    · rw [if_pos h1] at h; exact fin _ h (by omega) (by omega)
    · rw [if_neg h1] at h; cases h
  · rw [if_neg w0] at h
    by_cases w1 : way = 1
    · rw [if_pos w1] at h
      by_cases h1 : 1 ≤ s % 8
      · rw [if_pos h1] at h; exact fin _ h (by omega) (by omega)
      · rw [if_neg h1] at h; cases h
    · rw [if_neg w1] at h
      by_cases w2 : way = 2
      · rw [if_pos w2] at h
        by_cases h1 : s / 8 + 1 < T.1 1
        · rw [if_pos h1] at h; exact fin _ h (by omega) (by omega)
        · rw [if_neg h1] at h; cases h
      · rw [if_neg w2] at h
        by_cases w3 : way = 3
        · rw [if_pos w3] at h
          by_cases h1 : 1 ≤ s / 8
          · rw [if_pos h1] at h; exact fin _ h (by omega) (by omega)
          · rw [if_neg h1] at h; cases h
        · rw [if_neg w3] at h; cases h
theorem lie_face {T : Sd} {s f t : Nat} (hl : lieOK T (s * 3 + f)) (hf : f < 3) (ht : t < T.1 2) (h3 : T.1 2 ≤ 3) : lieOK T (s * 3 + t) := by
  have h := lie_wall hl ht h3
  rw [show (s * 3 + f) / 3 = s by omega] at h
  exact h
/-- the likeliest of where it lies and where a touch lays it -/
def tm (T : Sd) (F : Nat → Nat → Nat) (l w : Nat) : Nat → Nat
  | 0 => F l w
  | i + 1 => match tcS T (l / 3) i with
    | none => tm T F l w i
    | some u => if tm T F l w i < F (u * 3 + l % 3) w then F (u * 3 + l % 3) w else tm T F l w i
theorem tm_ge {T : Sd} {F : Nat → Nat → Nat} {l w : Nat} : ∀ i, F l w ≤ tm T F l w i := by
  intro i
  induction i with
  | zero => exact Nat.le_refl _
  | succ i ih =>
    rw [tm]
    cases tcS T (l / 3) i with
    | none => exact ih
    | some u =>
      show _ ≤ if _ < _ then _ else _
      split
      · omega
      · exact ih
theorem tm_le {T : Sd} {F : Nat → Nat → Nat} {l w N : Nat} (h : ∀ l w, F l w ≤ N) : ∀ i, tm T F l w i ≤ N := by
  intro i
  induction i with
  | zero => exact h _ _
  | succ i ih =>
    rw [tm]
    cases tcS T (l / 3) i with
    | none => exact ih
    | some u =>
      show (if _ < _ then _ else _) ≤ _
      split
      · exact h _ _
      · exact ih
theorem bs_max (f : Nat → Nat) (cn : Nat → Bool) : ∀ n p, bs f cn n = some p → ∀ i, i < n → cn i = true → f i ≤ p.2 := by
  intro n
  induction n with
  | zero => intro p h; cases h
  | succ n ih =>
    intro p h i hi hc
    cases e : bs f cn n with
    | none =>
      rw [bs_none e] at h
      by_cases e1 : i = n
      · subst e1; rw [hc] at h; cases h; exact Nat.le_refl _
      · exfalso
        have : ∀ m, m ≤ n → ∀ j, j < m → cn j = true → bs f cn m ≠ none := by
          intro m
          induction m with
          | zero => intro _ j hj; omega
          | succ m ihm =>
            intro hm j hj hcj hn
            cases e3 : bs f cn m with
            | none =>
              rw [bs_none e3] at hn
              by_cases e4 : j = m
              · subst e4; rw [hcj] at hn; cases hn
              · exact ihm (by omega) j (by omega) hcj e3
            | some q =>
              rw [bs_more e3] at hn
              cases e5 : (cn m && decide (q.2 < f m)) <;> rw [e5] at hn <;> cases hn
        exact this n (Nat.le_refl _) i (by omega) hc e
    | some q =>
      rw [bs_more e] at h
      cases e2 : (cn n && decide (q.2 < f n)) with
      | true =>
        rw [e2] at h
        cases h
        have hq : q.2 < f n := by
          by_cases h5 : q.2 < f n
          · exact h5
          · rw [decide_eq_false h5, Bool.and_false] at e2; cases e2
        by_cases e1 : i = n
        · subst e1; exact Nat.le_refl _
        · have := ih q e i (by omega) hc
          show f i ≤ f n
          omega
      | false =>
        rw [e2] at h
        cases h
        by_cases e1 : i = n
        · subst e1
          rw [hc, Bool.true_and] at e2
          exact Nat.not_lt.mp (of_decide_eq_false e2)
        · exact ih _ e i (by omega) hc
theorem va_bs {T : Sd} {LW : LWt} {F : Nat → Nat → Nat} {l w : Nat} {x : Int32} {a : Nat} (ha : a ≤ T.1 3) (hc : cnB T l a = true) : va T LW F l w a x ≤ va T LW F l w (act T LW F none l w x) x := by
  obtain ⟨p, hp⟩ := bs_some (T := T) (l := l) (f := fun a => va T LW F l w a x)
  have h1 := bs_max _ _ _ _ hp a (by omega) hc
  have h2 := bs_lt _ _ _ _ hp
  have e : act T LW F none l w x = p.1 := by show bsA (bs _ _ _) = _; rw [hp]; rfl
  rw [e]
  rw [h2.2.1] at h1
  exact h1
theorem act_cn {T : Sd} {LW : LWt} {F : Nat → Nat → Nat} {l w : Nat} {x : Int32} : act T LW F none l w x ≤ T.1 3 ∧ cnB T l (act T LW F none l w x) = true := by
  obtain ⟨p, hp⟩ := bs_some (T := T) (l := l) (f := fun a => va T LW F l w a x)
  have h2 := bs_lt _ _ _ _ hp
  have e : act T LW F none l w x = p.1 := by show bsA (bs _ _ _) = _; rw [hp]; rfl
  rw [e]
  exact ⟨by omega, h2.2.2⟩
theorem sm_mono {f g : Nat → Nat} : ∀ n, (∀ i, i < n → f i ≤ g i) → sm f n ≤ sm g n := by
  intro n
  induction n with
  | zero => intro _; exact Nat.le_refl _
  | succ n ih => intro h; exact Nat.add_le_add (ih (fun i hi => h i (by omega))) (h n (by omega))
theorem va_mono {T : Sd} {LW : LWt} {F : Nat → Nat → Nat} {l w a : Nat} {x : Int32} (h : ∀ l w, F l w ≤ F l (w + 1)) : va T LW F l w a x ≤ va T LW F l (w + 1) a x := by
  have hl : ∀ way, ld T LW F l w way x ≤ ld T LW F l (w + 1) way x := fun way => by
    unfold ld
    by_cases h1 : n_land T LW l way x = -1
    · rw [if_pos h1, if_pos h1, if_neg (Nat.succ_ne_zero w)]
      by_cases h2 : w = 0
      · rw [if_pos h2]; exact Nat.zero_le _
      · rw [if_neg h2]
        have := h l (w - 1)
        rw [show w - 1 + 1 = w by omega] at this
        exact this
    · rw [if_neg h1, if_neg h1]; exact h _ _
  unfold va
  by_cases h1 : a = T.1 3
  · rw [if_pos h1, if_pos h1]; exact Nat.mul_le_mul_left _ (hl _)
  · rw [if_neg h1, if_neg h1]; exact sm_mono _ (fun i _ => Nat.mul_le_mul_left _ (hl _))
theorem Fc_mono {T : Sd} {LW : LWt} {gl : Nat → Bool} : ∀ n t l w, Fc T LW none gl n t l w ≤ Fc T LW none gl n t l (w + 1) := by
  intro n
  induction n with
  | zero => intro t l w; exact Nat.le_refl _
  | succ n ih =>
    intro t l w
    show lay T LW _ none _ l w (nI t) ≤ lay T LW _ none _ l (w + 1) (nI t)
    unfold lay
    by_cases h : hm T l = true
    · rw [if_pos h, if_pos h]; exact Nat.le_refl _
    · rw [if_neg h, if_neg h]
      have ha := act_cn (T := T) (LW := LW) (F := Fc T LW none gl n (t + T.1 5)) (l := l) (w := w) (x := nI t)
      exact Nat.le_trans (va_mono (fun l w => ih _ l w)) (va_bs ha.1 ha.2)
section M1
variable {g : am_H} {k : Mk} {v pl : Nat → Int32} {br lo : Int32} {c ct pr pt cm bf bt : Nat → Int32}
variable {lv : Nat} {T : Sd} {W : Nat → Lw}
variable {S : Nat → Nat}
theorem c_plN {Q : Option Value → am_H → Prop} (hM : MR k lv T W) (hG : GS T) {a e : Nat} (ha2 : a < 100) (he2 : e < 100) (q1 : a < T.1 0 → e < T.1 1 → Q (some (.int (nI 1))) (mh g k v pl br lo c ct pr pt cm bf bt)) (q0 : ¬ (a < T.1 0 ∧ e < T.1 1) → Q (some (.int (nI 0))) (mh g k v pl br lo c ct pr pt cm bf bt)) : AC am_P 1 22 229 [.ref 121, .int (nI a), .int (nI e)] (mh g k v pl br lo c ct pr pt cm bf bt) Q := by
  refine c_X11_isPlace hM hG (fun a' e' ea ee ha he => ?_) (fun z => ?_)
  · obtain ⟨⟨g0, g0x⟩, ⟨g1, g1x⟩, ⟨g2, g2x⟩, ⟨g3, g3x⟩, g4, ⟨g5, g5x⟩, g6, gsq, goc, gwt, gsp, gfr⟩ := hG
    have h1 := (nI_eq (by omega) (by omega)).mp ea
    have h2 := (nI_eq (by omega) (by omega)).mp ee
    subst h1 h2
    exact q1 ha he
  · obtain ⟨⟨g0, g0x⟩, ⟨g1, g1x⟩, ⟨g2, g2x⟩, ⟨g3, g3x⟩, g4, ⟨g5, g5x⟩, g6, gsq, goc, gwt, gsp, gfr⟩ := hG
    refine q0 (fun y => ?_)
    rcases z with z | z | z | z
    · exact nI_pos (by omega) z
    · exact nI_ge y.1 (by omega) z
    · exact nI_pos (by omega) z
    · exact nI_ge y.2 (by omega) z
theorem c_plX {Q : Option Value → am_H → Prop} (hM : MR k lv T W) (hG : GS T) {x y : Int32} (h : x < 0 ∨ y < 0) (q0 : Q (some (.int (nI 0))) (mh g k v pl br lo c ct pr pt cm bf bt)) : AC am_P 1 22 229 [.ref 121, .int x, .int y] (mh g k v pl br lo c ct pr pt cm bf bt) Q := by
  refine c_X11_isPlace hM hG (fun a' e' ea ee ha he => ?_) (fun z => q0)
  obtain ⟨⟨g0, g0x⟩, ⟨g1, g1x⟩, ⟨g2, g2x⟩, ⟨g3, g3x⟩, g4, ⟨g5, g5x⟩, g6, gsq, goc, gwt, gsp, gfr⟩ := hG
  subst ea ee
  rcases h with h | h
  · exact absurd h (nI_pos (by omega))
  · exact absurd h (nI_pos (by omega))
theorem n_dec {a : Nat} (h : 1 ≤ a) : nI a + -1 = nI (a - 1) := by
  rw [show a = a - 1 + 1 by omega, ← nI_add, Int32.add_assoc, show nI 1 + (-1 : Int32) = 0 by decide, Int32.add_zero, Nat.add_sub_cancel]
theorem c_X11_touched {Q : Option Value → am_H → Prop} (hM : MR k lv T W) (hG : GS T) {l w y : Nat} (hl : lieOK T l) (hw : w < 4) (hy : y < 4) (q1 : ∀ u, tcS T (l / 3) y = some u → Q (some (.int (nI (4 * (u * 3 + l % 3) + w)))) (mh g k v pl br lo c ct pr pt cm bf bt)) (q0 : tcS T (l / 3) y = none → Q (some (.int (-1))) (mh g k v pl br lo c ct pr pt cm bf bt)) : AC am_P 2 44 249 [.ref 121, .int (nI (4 * l + w)), .int (nI y)] (mh g k v pl br lo c ct pr pt cm bf bt) Q := by
  refine AC.of (ls := [_, _, _, _, _]) rfl ?_
  have hM0 := hM
  have hG0 := hG
  obtain ⟨m0, m1, mr, mw, mf, mk, mli, mt, ms, msq, moc, mwy, msp, mlw⟩ := hM
  obtain ⟨⟨g0, g0x⟩, ⟨g1, g1x⟩, ⟨g2, g2x⟩, ⟨g3, g3x⟩, g4, ⟨g5, g5x⟩, g6, gsq, goc, gwt, gsp, gfr⟩ := hG
  have hl96 := hl.1
  have hla := hl.2.1
  have hle := hl.2.2.1
  have ew : (4 * l + w) % 4 = w := by omega
  unfold tcS at q1 q0
  by_cases y0 : y = 0
  · subst y0
    rw [if_pos rfl] at q1 q0
    refine aw rfl rfl ?_
    refine aw_cs (d1 := 0) (L1 := 0) rfl rfl (by decide) (by decide) (Nat.le_of_ble_eq_true rfl) (c_al (by omega) (by omega) ?_)
    refine aw rfl rfl ?_
    refine aw_ne rfl (fun c => absurd (by decide) c) (fun _ => ?_)
    refine aw_c (v := nI 1) rfl (by decide) ?_
    refine aw rfl rfl ?_
    refine aw_addn rfl ?_
    refine aw_ist (ls' := [_, _, _, _, _]) rfl rfl ?_
    refine aw rfl rfl ?_
    refine aw_cs (d1 := 0) (L1 := 0) rfl rfl (by decide) (by decide) (Nat.le_of_ble_eq_true rfl) (c_ac (by omega) (by omega) ?_)
    refine aw rfl rfl ?_
    refine aw_c (v := nI 2) rfl (by decide) ?_
    refine aw_ine rfl (fun _ => ?_) (fun c => absurd c (by decide))
    refine aw rfl rfl ?_
    refine aw_c (v := nI 3) rfl (by decide) ?_
    refine aw_ine rfl (fun _ => ?_) (fun c => absurd c (by decide))
    refine aw_c (v := nI 0) rfl (by decide) ?_
    refine aw_addn rfl ?_
    refine aw_ist (ls' := [_, _, _, _, _]) rfl rfl ?_
    refine aw rfl rfl ?_
    refine aw rfl rfl ?_
    refine aw rfl rfl ?_
    refine aw_cv (d1 := 1) (L1 := 22) rfl rfl mg_121 rfl rfl (by decide) (by decide) (Nat.le_of_ble_eq_true rfl) (c_plN hM0 hG0 (by omega) (by omega) (fun ha he => ?_) (fun z => ?_))
    · refine aw_eq rfl (fun c => absurd c (by decide)) (fun _ => ?_)
      refine aw rfl rfl ?_
      refine aw rfl rfl ?_
      refine aw rfl rfl ?_
      refine aw_cv (d1 := 0) (L1 := 0) rfl rfl mg_121 rfl rfl (by decide) (by decide) (Nat.le_of_ble_eq_true rfl) (c_sa hM0 hG0 ha he ?_)
      rw [show (l / 3 / 8 + 0) * 8 + (l / 3 % 8 + 1) = l / 3 + 1 by omega]
      refine aw_c (v := nI 4) rfl (by decide) ?_
      refine aw_ieq rfl (fun c68 => ?_) (fun c68 => ?_)
      · refine aw_c (v := -1) rfl (by decide) ?_
        exact aw_iret rfl rfl (by rw [if_pos (by omega)] at q0; exact q0 (by unfold tcK; rw [if_pos (Or.inl c68)]))
      · refine aw rfl rfl ?_
        refine aw rfl rfl ?_
        refine aw rfl rfl ?_
        refine aw_cv (d1 := 0) (L1 := 0) rfl rfl mg_121 rfl rfl (by decide) (by decide) (Nat.le_of_ble_eq_true rfl) (c_sa hM0 hG0 ha he ?_)
        rw [show (l / 3 / 8 + 0) * 8 + (l / 3 % 8 + 1) = l / 3 + 1 by omega]
        refine aw_c (v := nI 5) rfl (by decide) ?_
        refine aw_ine rfl (fun c79 => ?_) (fun c79 => ?_)
        · refine aw rfl rfl ?_
          refine aw rfl rfl ?_
          refine aw rfl rfl ?_
          refine aw_cs (d1 := 0) (L1 := 0) rfl rfl (by decide) (by decide) (Nat.le_of_ble_eq_true rfl) (c_fc (by omega) (by omega) ?_)
          refine aw rfl rfl ?_
          refine aw_c (v := nI 4) rfl (by decide) ?_
          refine aw_remn rfl (by omega) (by omega) (by omega) ?_
          refine aw_cs (d1 := 0) (L1 := 0) rfl rfl (by decide) (by decide) (Nat.le_of_ble_eq_true rfl) (c_X11_numberOf ?_)
          exact aw_iret rfl rfl (by rw [if_pos (by omega)] at q1; rw [ew, show ((8 * (l / 3 / 8 + 0) + (l / 3 % 8 + 1)) * 3 + l % 3) * 4 + w = 4 * ((l / 3 + 1) * 3 + l % 3) + w by omega]; exact q1 _ (by unfold tcK; rw [if_neg (fun z => z.elim c68 c79)]))
        · refine aw_c (v := -1) rfl (by decide) ?_
          exact aw_iret rfl rfl (by rw [if_pos (by omega)] at q0; exact q0 (by unfold tcK; rw [if_pos (Or.inr c79)]))
    · refine aw_eq rfl (fun _ => ?_) (fun c => absurd (by decide) c)
      refine aw_c (v := -1) rfl (by decide) ?_
      exact aw_iret rfl rfl (by rw [if_neg (by omega)] at q0; exact q0 rfl)
  rw [if_neg y0] at q1 q0
  by_cases y1 : y = 1
  · subst y1
    rw [if_pos rfl] at q1 q0
    by_cases hneg : 1 ≤ l / 3 % 8
    · skip
      refine aw rfl rfl ?_
      refine aw_cs (d1 := 0) (L1 := 0) rfl rfl (by decide) (by decide) (Nat.le_of_ble_eq_true rfl) (c_al (by omega) (by omega) ?_)
      refine aw rfl rfl ?_
      refine aw_ne rfl (fun _ => ?_) (fun c => absurd c (by decide))
      refine aw rfl rfl ?_
      refine aw_c (v := nI 1) rfl (by decide) ?_
      refine aw_ine rfl (fun c => absurd (by decide) c) (fun _ => ?_)
      refine aw_c (v := -1) rfl (by decide) ?_
      refine aw rfl rfl ?_
      refine aw rfl rfl ?_
      rw [n_dec hneg]
      refine aw_ist (ls' := [_, _, _, _, _]) rfl rfl ?_
      refine aw rfl rfl ?_
      refine aw_cs (d1 := 0) (L1 := 0) rfl rfl (by decide) (by decide) (Nat.le_of_ble_eq_true rfl) (c_ac (by omega) (by omega) ?_)
      refine aw rfl rfl ?_
      refine aw_c (v := nI 2) rfl (by decide) ?_
      refine aw_ine rfl (fun _ => ?_) (fun c => absurd c (by decide))
      refine aw rfl rfl ?_
      refine aw_c (v := nI 3) rfl (by decide) ?_
      refine aw_ine rfl (fun _ => ?_) (fun c => absurd c (by decide))
      refine aw_c (v := nI 0) rfl (by decide) ?_
      refine aw_addn rfl ?_
      refine aw_ist (ls' := [_, _, _, _, _]) rfl rfl ?_
      refine aw rfl rfl ?_
      refine aw rfl rfl ?_
      refine aw rfl rfl ?_
      refine aw_cv (d1 := 1) (L1 := 22) rfl rfl mg_121 rfl rfl (by decide) (by decide) (Nat.le_of_ble_eq_true rfl) (c_plN hM0 hG0 (by omega) (by omega) (fun ha he => ?_) (fun z => ?_))
      · refine aw_eq rfl (fun c => absurd c (by decide)) (fun _ => ?_)
        refine aw rfl rfl ?_
        refine aw rfl rfl ?_
        refine aw rfl rfl ?_
        refine aw_cv (d1 := 0) (L1 := 0) rfl rfl mg_121 rfl rfl (by decide) (by decide) (Nat.le_of_ble_eq_true rfl) (c_sa hM0 hG0 ha he ?_)
        rw [show (l / 3 / 8 + 0) * 8 + (l / 3 % 8 - 1) = l / 3 - 1 by omega]
        refine aw_c (v := nI 4) rfl (by decide) ?_
        refine aw_ieq rfl (fun c68 => ?_) (fun c68 => ?_)
        · refine aw_c (v := -1) rfl (by decide) ?_
          exact aw_iret rfl rfl (by rw [if_pos hneg] at q0; exact q0 (by unfold tcK; rw [if_pos (Or.inl c68)]))
        · refine aw rfl rfl ?_
          refine aw rfl rfl ?_
          refine aw rfl rfl ?_
          refine aw_cv (d1 := 0) (L1 := 0) rfl rfl mg_121 rfl rfl (by decide) (by decide) (Nat.le_of_ble_eq_true rfl) (c_sa hM0 hG0 ha he ?_)
          rw [show (l / 3 / 8 + 0) * 8 + (l / 3 % 8 - 1) = l / 3 - 1 by omega]
          refine aw_c (v := nI 5) rfl (by decide) ?_
          refine aw_ine rfl (fun c79 => ?_) (fun c79 => ?_)
          · refine aw rfl rfl ?_
            refine aw rfl rfl ?_
            refine aw rfl rfl ?_
            refine aw_cs (d1 := 0) (L1 := 0) rfl rfl (by decide) (by decide) (Nat.le_of_ble_eq_true rfl) (c_fc (by omega) (by omega) ?_)
            refine aw rfl rfl ?_
            refine aw_c (v := nI 4) rfl (by decide) ?_
            refine aw_remn rfl (by omega) (by omega) (by omega) ?_
            refine aw_cs (d1 := 0) (L1 := 0) rfl rfl (by decide) (by decide) (Nat.le_of_ble_eq_true rfl) (c_X11_numberOf ?_)
            exact aw_iret rfl rfl (by rw [if_pos hneg] at q1; rw [ew, show ((8 * (l / 3 / 8 + 0) + (l / 3 % 8 - 1)) * 3 + l % 3) * 4 + w = 4 * ((l / 3 - 1) * 3 + l % 3) + w by omega]; exact q1 _ (by unfold tcK; rw [if_neg (fun z => z.elim c68 c79)]))
          · refine aw_c (v := -1) rfl (by decide) ?_
            exact aw_iret rfl rfl (by rw [if_pos hneg] at q0; exact q0 (by unfold tcK; rw [if_pos (Or.inr c79)]))
      · refine aw_eq rfl (fun _ => ?_) (fun c => absurd (by decide) c)
        refine aw_c (v := -1) rfl (by decide) ?_
        exact aw_iret rfl rfl (absurd ⟨by omega, by omega⟩ z)
    · rw [if_neg hneg] at q0
      refine aw rfl rfl ?_
      refine aw_cs (d1 := 0) (L1 := 0) rfl rfl (by decide) (by decide) (Nat.le_of_ble_eq_true rfl) (c_al (by omega) (by omega) ?_)
      refine aw rfl rfl ?_
      refine aw_ne rfl (fun _ => ?_) (fun c => absurd c (by decide))
      refine aw rfl rfl ?_
      refine aw_c (v := nI 1) rfl (by decide) ?_
      refine aw_ine rfl (fun c => absurd (by decide) c) (fun _ => ?_)
      refine aw_c (v := -1) rfl (by decide) ?_
      refine aw rfl rfl ?_
      refine aw rfl rfl ?_
      refine aw_ist (ls' := [_, _, _, _, _]) rfl rfl ?_
      refine aw rfl rfl ?_
      refine aw_cs (d1 := 0) (L1 := 0) rfl rfl (by decide) (by decide) (Nat.le_of_ble_eq_true rfl) (c_ac (by omega) (by omega) ?_)
      refine aw rfl rfl ?_
      refine aw_c (v := nI 2) rfl (by decide) ?_
      refine aw_ine rfl (fun _ => ?_) (fun c => absurd c (by decide))
      refine aw rfl rfl ?_
      refine aw_c (v := nI 3) rfl (by decide) ?_
      refine aw_ine rfl (fun _ => ?_) (fun c => absurd c (by decide))
      refine aw_c (v := nI 0) rfl (by decide) ?_
      refine aw_addn rfl ?_
      refine aw_ist (ls' := [_, _, _, _, _]) rfl rfl ?_
      refine aw rfl rfl ?_
      refine aw rfl rfl ?_
      refine aw rfl rfl ?_
      refine aw_cv (d1 := 1) (L1 := 22) rfl rfl mg_121 rfl rfl (by decide) (by decide) (Nat.le_of_ble_eq_true rfl) (c_plX hM0 hG0 (Or.inl (by rw [show l / 3 % 8 = 0 by omega]; decide)) ?_)
      · refine aw_eq rfl (fun _ => ?_) (fun c => absurd (by decide) c)
        refine aw_c (v := -1) rfl (by decide) ?_
        exact aw_iret rfl rfl (q0 rfl)
  rw [if_neg y1] at q1 q0
  by_cases y2 : y = 2
  · subst y2
    rw [if_pos rfl] at q1 q0
    refine aw rfl rfl ?_
    refine aw_cs (d1 := 0) (L1 := 0) rfl rfl (by decide) (by decide) (Nat.le_of_ble_eq_true rfl) (c_al (by omega) (by omega) ?_)
    refine aw rfl rfl ?_
    refine aw_ne rfl (fun _ => ?_) (fun c => absurd c (by decide))
    refine aw rfl rfl ?_
    refine aw_c (v := nI 1) rfl (by decide) ?_
    refine aw_ine rfl (fun _ => ?_) (fun c => absurd c (by decide))
    refine aw_c (v := nI 0) rfl (by decide) ?_
    refine aw_addn rfl ?_
    refine aw_ist (ls' := [_, _, _, _, _]) rfl rfl ?_
    refine aw rfl rfl ?_
    refine aw_cs (d1 := 0) (L1 := 0) rfl rfl (by decide) (by decide) (Nat.le_of_ble_eq_true rfl) (c_ac (by omega) (by omega) ?_)
    refine aw rfl rfl ?_
    refine aw_c (v := nI 2) rfl (by decide) ?_
    refine aw_ine rfl (fun c => absurd (by decide) c) (fun _ => ?_)
    refine aw_c (v := nI 1) rfl (by decide) ?_
    refine aw rfl rfl ?_
    refine aw_addn rfl ?_
    refine aw_ist (ls' := [_, _, _, _, _]) rfl rfl ?_
    refine aw rfl rfl ?_
    refine aw rfl rfl ?_
    refine aw rfl rfl ?_
    refine aw_cv (d1 := 1) (L1 := 22) rfl rfl mg_121 rfl rfl (by decide) (by decide) (Nat.le_of_ble_eq_true rfl) (c_plN hM0 hG0 (by omega) (by omega) (fun ha he => ?_) (fun z => ?_))
    · refine aw_eq rfl (fun c => absurd c (by decide)) (fun _ => ?_)
      refine aw rfl rfl ?_
      refine aw rfl rfl ?_
      refine aw rfl rfl ?_
      refine aw_cv (d1 := 0) (L1 := 0) rfl rfl mg_121 rfl rfl (by decide) (by decide) (Nat.le_of_ble_eq_true rfl) (c_sa hM0 hG0 ha he ?_)
      rw [show (l / 3 / 8 + 1) * 8 + (l / 3 % 8 + 0) = l / 3 + 8 by omega]
      refine aw_c (v := nI 4) rfl (by decide) ?_
      refine aw_ieq rfl (fun c68 => ?_) (fun c68 => ?_)
      · refine aw_c (v := -1) rfl (by decide) ?_
        exact aw_iret rfl rfl (by rw [if_pos (by omega)] at q0; exact q0 (by unfold tcK; rw [if_pos (Or.inl c68)]))
      · refine aw rfl rfl ?_
        refine aw rfl rfl ?_
        refine aw rfl rfl ?_
        refine aw_cv (d1 := 0) (L1 := 0) rfl rfl mg_121 rfl rfl (by decide) (by decide) (Nat.le_of_ble_eq_true rfl) (c_sa hM0 hG0 ha he ?_)
        rw [show (l / 3 / 8 + 1) * 8 + (l / 3 % 8 + 0) = l / 3 + 8 by omega]
        refine aw_c (v := nI 5) rfl (by decide) ?_
        refine aw_ine rfl (fun c79 => ?_) (fun c79 => ?_)
        · refine aw rfl rfl ?_
          refine aw rfl rfl ?_
          refine aw rfl rfl ?_
          refine aw_cs (d1 := 0) (L1 := 0) rfl rfl (by decide) (by decide) (Nat.le_of_ble_eq_true rfl) (c_fc (by omega) (by omega) ?_)
          refine aw rfl rfl ?_
          refine aw_c (v := nI 4) rfl (by decide) ?_
          refine aw_remn rfl (by omega) (by omega) (by omega) ?_
          refine aw_cs (d1 := 0) (L1 := 0) rfl rfl (by decide) (by decide) (Nat.le_of_ble_eq_true rfl) (c_X11_numberOf ?_)
          exact aw_iret rfl rfl (by rw [if_pos (by omega)] at q1; rw [ew, show ((8 * (l / 3 / 8 + 1) + (l / 3 % 8 + 0)) * 3 + l % 3) * 4 + w = 4 * ((l / 3 + 8) * 3 + l % 3) + w by omega]; exact q1 _ (by unfold tcK; rw [if_neg (fun z => z.elim c68 c79)]))
        · refine aw_c (v := -1) rfl (by decide) ?_
          exact aw_iret rfl rfl (by rw [if_pos (by omega)] at q0; exact q0 (by unfold tcK; rw [if_pos (Or.inr c79)]))
    · refine aw_eq rfl (fun _ => ?_) (fun c => absurd (by decide) c)
      refine aw_c (v := -1) rfl (by decide) ?_
      exact aw_iret rfl rfl (by rw [if_neg (by omega)] at q0; exact q0 rfl)
  rw [if_neg y2] at q1 q0
  by_cases y3 : y = 3
  · subst y3
    rw [if_pos rfl] at q1 q0
    by_cases hneg : 1 ≤ l / 3 / 8
    · skip
      refine aw rfl rfl ?_
      refine aw_cs (d1 := 0) (L1 := 0) rfl rfl (by decide) (by decide) (Nat.le_of_ble_eq_true rfl) (c_al (by omega) (by omega) ?_)
      refine aw rfl rfl ?_
      refine aw_ne rfl (fun _ => ?_) (fun c => absurd c (by decide))
      refine aw rfl rfl ?_
      refine aw_c (v := nI 1) rfl (by decide) ?_
      refine aw_ine rfl (fun _ => ?_) (fun c => absurd c (by decide))
      refine aw_c (v := nI 0) rfl (by decide) ?_
      refine aw_addn rfl ?_
      refine aw_ist (ls' := [_, _, _, _, _]) rfl rfl ?_
      refine aw rfl rfl ?_
      refine aw_cs (d1 := 0) (L1 := 0) rfl rfl (by decide) (by decide) (Nat.le_of_ble_eq_true rfl) (c_ac (by omega) (by omega) ?_)
      refine aw rfl rfl ?_
      refine aw_c (v := nI 2) rfl (by decide) ?_
      refine aw_ine rfl (fun _ => ?_) (fun c => absurd c (by decide))
      refine aw rfl rfl ?_
      refine aw_c (v := nI 3) rfl (by decide) ?_
      refine aw_ine rfl (fun c => absurd (by decide) c) (fun _ => ?_)
      refine aw_c (v := -1) rfl (by decide) ?_
      refine aw rfl rfl ?_
      refine aw rfl rfl ?_
      rw [n_dec hneg]
      refine aw_ist (ls' := [_, _, _, _, _]) rfl rfl ?_
      refine aw rfl rfl ?_
      refine aw rfl rfl ?_
      refine aw rfl rfl ?_
      refine aw_cv (d1 := 1) (L1 := 22) rfl rfl mg_121 rfl rfl (by decide) (by decide) (Nat.le_of_ble_eq_true rfl) (c_plN hM0 hG0 (by omega) (by omega) (fun ha he => ?_) (fun z => ?_))
      · refine aw_eq rfl (fun c => absurd c (by decide)) (fun _ => ?_)
        refine aw rfl rfl ?_
        refine aw rfl rfl ?_
        refine aw rfl rfl ?_
        refine aw_cv (d1 := 0) (L1 := 0) rfl rfl mg_121 rfl rfl (by decide) (by decide) (Nat.le_of_ble_eq_true rfl) (c_sa hM0 hG0 ha he ?_)
        rw [show (l / 3 / 8 - 1) * 8 + (l / 3 % 8 + 0) = l / 3 - 8 by omega]
        refine aw_c (v := nI 4) rfl (by decide) ?_
        refine aw_ieq rfl (fun c68 => ?_) (fun c68 => ?_)
        · refine aw_c (v := -1) rfl (by decide) ?_
          exact aw_iret rfl rfl (by rw [if_pos hneg] at q0; exact q0 (by unfold tcK; rw [if_pos (Or.inl c68)]))
        · refine aw rfl rfl ?_
          refine aw rfl rfl ?_
          refine aw rfl rfl ?_
          refine aw_cv (d1 := 0) (L1 := 0) rfl rfl mg_121 rfl rfl (by decide) (by decide) (Nat.le_of_ble_eq_true rfl) (c_sa hM0 hG0 ha he ?_)
          rw [show (l / 3 / 8 - 1) * 8 + (l / 3 % 8 + 0) = l / 3 - 8 by omega]
          refine aw_c (v := nI 5) rfl (by decide) ?_
          refine aw_ine rfl (fun c79 => ?_) (fun c79 => ?_)
          · refine aw rfl rfl ?_
            refine aw rfl rfl ?_
            refine aw rfl rfl ?_
            refine aw_cs (d1 := 0) (L1 := 0) rfl rfl (by decide) (by decide) (Nat.le_of_ble_eq_true rfl) (c_fc (by omega) (by omega) ?_)
            refine aw rfl rfl ?_
            refine aw_c (v := nI 4) rfl (by decide) ?_
            refine aw_remn rfl (by omega) (by omega) (by omega) ?_
            refine aw_cs (d1 := 0) (L1 := 0) rfl rfl (by decide) (by decide) (Nat.le_of_ble_eq_true rfl) (c_X11_numberOf ?_)
            exact aw_iret rfl rfl (by rw [if_pos hneg] at q1; rw [ew, show ((8 * (l / 3 / 8 - 1) + (l / 3 % 8 + 0)) * 3 + l % 3) * 4 + w = 4 * ((l / 3 - 8) * 3 + l % 3) + w by omega]; exact q1 _ (by unfold tcK; rw [if_neg (fun z => z.elim c68 c79)]))
          · refine aw_c (v := -1) rfl (by decide) ?_
            exact aw_iret rfl rfl (by rw [if_pos hneg] at q0; exact q0 (by unfold tcK; rw [if_pos (Or.inr c79)]))
      · refine aw_eq rfl (fun _ => ?_) (fun c => absurd (by decide) c)
        refine aw_c (v := -1) rfl (by decide) ?_
        exact aw_iret rfl rfl (absurd ⟨by omega, by omega⟩ z)
    · rw [if_neg hneg] at q0
      refine aw rfl rfl ?_
      refine aw_cs (d1 := 0) (L1 := 0) rfl rfl (by decide) (by decide) (Nat.le_of_ble_eq_true rfl) (c_al (by omega) (by omega) ?_)
      refine aw rfl rfl ?_
      refine aw_ne rfl (fun _ => ?_) (fun c => absurd c (by decide))
      refine aw rfl rfl ?_
      refine aw_c (v := nI 1) rfl (by decide) ?_
      refine aw_ine rfl (fun _ => ?_) (fun c => absurd c (by decide))
      refine aw_c (v := nI 0) rfl (by decide) ?_
      refine aw_addn rfl ?_
      refine aw_ist (ls' := [_, _, _, _, _]) rfl rfl ?_
      refine aw rfl rfl ?_
      refine aw_cs (d1 := 0) (L1 := 0) rfl rfl (by decide) (by decide) (Nat.le_of_ble_eq_true rfl) (c_ac (by omega) (by omega) ?_)
      refine aw rfl rfl ?_
      refine aw_c (v := nI 2) rfl (by decide) ?_
      refine aw_ine rfl (fun _ => ?_) (fun c => absurd c (by decide))
      refine aw rfl rfl ?_
      refine aw_c (v := nI 3) rfl (by decide) ?_
      refine aw_ine rfl (fun c => absurd (by decide) c) (fun _ => ?_)
      refine aw_c (v := -1) rfl (by decide) ?_
      refine aw rfl rfl ?_
      refine aw rfl rfl ?_
      refine aw_ist (ls' := [_, _, _, _, _]) rfl rfl ?_
      refine aw rfl rfl ?_
      refine aw rfl rfl ?_
      refine aw rfl rfl ?_
      refine aw_cv (d1 := 1) (L1 := 22) rfl rfl mg_121 rfl rfl (by decide) (by decide) (Nat.le_of_ble_eq_true rfl) (c_plX hM0 hG0 (Or.inr (by rw [show l / 3 / 8 = 0 by omega]; decide)) ?_)
      · refine aw_eq rfl (fun _ => ?_) (fun c => absurd (by decide) c)
        refine aw_c (v := -1) rfl (by decide) ?_
        exact aw_iret rfl rfl (q0 rfl)
  rw [if_neg y3] at q1 q0
  omega
end M1
