/-! ===== what both sides hold of a street ===== -/
def sm (f : Nat → Nat) : Nat → Nat
  | 0 => 0
  | n + 1 => sm f n + f n
def oc (T : Sd) (j : Nat) : Nat := (T.2 1 j).toNatClampNeg
def sx (T : Sd) (w : Nat) : Nat := (T.2 2 w).toNatClampNeg
/-- it may lie so -/
def lieOK (T : Sd) (l : Nat) : Prop := l < 96 ∧ l / 3 % 8 < T.1 0 ∧ l / 3 / 8 < T.1 1 ∧ l % 3 < T.1 2 ∧ ¬ T.2 0 (l / 3) = nI 4 ∧ ¬ T.2 0 (l / 3) = nI 5
/-- a street as a text without a fault tells it -/
def GS (T : Sd) : Prop := (1 ≤ T.1 0 ∧ T.1 0 ≤ 8) ∧ (1 ≤ T.1 1 ∧ T.1 1 ≤ 4) ∧ (1 ≤ T.1 2 ∧ T.1 2 ≤ 3) ∧ (1 ≤ T.1 3 ∧ T.1 3 ≤ 4) ∧ T.1 4 ≤ 2 ∧ (1 ≤ T.1 5 ∧ T.1 5 ≤ 99) ∧ T.1 6 ≤ 9999
  ∧ (∀ s, s < 32 → (s % 8 < T.1 0 ∧ s / 8 < T.1 1 → ∃ z : Nat, z ≤ 6 ∧ T.2 0 s = nI z) ∧ (¬ (s % 8 < T.1 0 ∧ s / 8 < T.1 1) → T.2 0 s = -1))
  ∧ (∀ j, j < T.1 3 → T.2 1 j = nI (oc T j) ∧ 1 ≤ oc T j ∧ oc T j ≤ 6 ∧ sm (fun o => sx T (6 * j + o)) (oc T j) = 6 ∧ ∀ o, o < oc T j → T.2 2 (6 * j + o) = nI (sx T (6 * j + o)) ∧ 1 ≤ sx T (6 * j + o) ∧ sx T (6 * j + o) ≤ 6 ∧ ∃ t : Nat, t ≤ 2 ∧ T.2 5 (6 * j + o) = nI t)
  ∧ T.2 2 24 = nI 6
  ∧ (∃ a e f : Nat, T.2 6 0 = nI a ∧ T.2 6 1 = nI e ∧ T.2 6 2 = nI f ∧ a < T.1 0 ∧ e < T.1 1 ∧ f < T.1 2 ∧ lieOK T ((e * 8 + a) * 3 + f))
  ∧ (∃ a e f : Nat, T.2 7 0 = nI a ∧ T.2 7 1 = nI e ∧ T.2 7 2 = nI f ∧ a < T.1 0 ∧ e < T.1 1 ∧ f < T.1 2 ∧ lieOK T ((e * 8 + a) * 3 + f))
def n_vs (g0 g1 g2 g3 g4 g5 g6 : Int32) : Nat → Int32 := fun j => if j = 0 then g0 else if j = 1 then g1 else if j = 2 then g2 else if j = 3 then g3 else if j = 4 then g4 else if j = 5 then g5 else g6
def lwf (W : Nat → Lw) : LWt := fun i g0 g1 g2 g3 g4 g5 g6 => lw_val (n_vs g0 g1 g2 g3 g4 g5 g6) (W i)
/-- the same, with its steps between lo and hi -/
def lw_i2 (lo hi : Nat) (k : Mk) : Nat → Lw → Prop
  | _, [] => True
  | b, (none, e) :: t => k.2.1 40 b = nI 0 ∧ (∃ p : Nat, lo ≤ p ∧ k.2.1 43 b = nI p ∧ k.2.1 44 b = nI (p + e.length) ∧ ex_in (k.2.1 46) (k.2.1 47) p e ∧ p + e.length ≤ hi) ∧ ex_wf e 0 ∧ lw_i2 lo hi k (b + 1) t
  | b, (some w, e) :: t => k.2.1 40 b = nI 1 ∧ (∃ p : Nat, lo ≤ p ∧ k.2.1 41 b = nI p ∧ k.2.1 42 b = nI (p + w.1.length) ∧ k.2.1 43 b = nI (p + w.1.length + w.2.length) ∧ k.2.1 44 b = nI (p + w.1.length + w.2.length + e.length) ∧ ex_in (k.2.1 46) (k.2.1 47) p w.1 ∧ ex_in (k.2.1 46) (k.2.1 47) (p + w.1.length) w.2 ∧ ex_in (k.2.1 46) (k.2.1 47) (p + w.1.length + w.2.length) e ∧ p + w.1.length + w.2.length + e.length ≤ hi) ∧ ex_wf w.1 0 ∧ ex_wf w.2 0 ∧ ex_wf e 0 ∧ lw_i2 lo hi k (b + 1) t
/-- the reference holds that street, on that side -/
def MR (k : Mk) (lv : Nat) (T : Sd) (W : Nat → Lw) : Prop := lv < 2 ∧ k.1 18 = nI lv ∧ k.2.1 22 lv = nI (T.1 1) ∧ k.2.1 23 lv = nI (T.1 0) ∧ k.2.1 25 lv = nI (T.1 2) ∧ k.2.1 26 lv = nI (T.1 3) ∧ k.2.1 34 lv = nI (T.1 4) ∧ k.2.1 35 lv = nI (T.1 5) ∧ k.2.1 36 lv = nI (T.1 6)
  ∧ (∀ a e, a < T.1 0 → e < T.1 1 → k.2.1 24 (32 * lv + 8 * e + a) = T.2 0 (e * 8 + a))
  ∧ (∀ j, j < T.1 3 → k.2.1 27 (4 * lv + j) = T.2 1 j)
  ∧ (∀ j o, j < T.1 3 → o < oc T j → k.2.1 28 (6 * (4 * lv + j) + o) = T.2 2 (6 * j + o) ∧ k.2.1 29 (6 * (4 * lv + j) + o) = T.2 3 (6 * j + o) ∧ k.2.1 30 (6 * (4 * lv + j) + o) = T.2 4 (6 * j + o) ∧ k.2.1 31 (6 * (4 * lv + j) + o) = T.2 5 (6 * j + o))
  ∧ (∀ i, i < 3 → k.2.1 32 (3 * lv + i) = T.2 6 i ∧ k.2.1 33 (3 * lv + i) = T.2 7 i)
  ∧ (∀ i, i < 3 → ∃ b : Nat, k.2.1 37 (3 * lv + i) = nI b ∧ k.2.1 38 (3 * lv + i) = nI (b + (W i).length) ∧ lw_in k b (W i) ∧ b + (W i).length ≤ 260 ∧ (W i = [] ∨ (130 * lv ≤ b ∧ b + (W i).length ≤ 130 * lv + 130)) ∧ lw_i2 (420 * lv) (420 * lv + 420) k b (W i))
theorem ex_val_congr {v v' : Nat → Int32} (hv : ∀ j, j < 7 → v j = v' j) : ∀ (e : Ex) (d : Nat) (st : List Int32), ex_wf e d → ex_val v e st = ex_val v' e st := by
  intro e
  induction e with
  | nil => intro d st _; rfl
  | cons w t ih =>
    obtain ⟨o, y⟩ := w
    intro d st h
    rw [ex_wf] at h
    rw [ex_val, ex_val]
    by_cases h0 : o = 0
    · rw [if_pos h0] at h
      rw [if_pos h0, if_pos h0]
      exact ih _ _ h.2
    · rw [if_neg h0] at h
      rw [if_neg h0, if_neg h0]
      by_cases h1 : o = 1
      · rw [if_pos h1] at h
        rw [if_pos h1, if_pos h1]
        obtain ⟨_, ⟨j, hj, rfl⟩, h⟩ := h
        rw [nI_clamp (by omega), hv j hj]
        exact ih _ _ h
      · rw [if_neg h1] at h
        rw [if_neg h1, if_neg h1]
        refine congrArg (ex_two st) (funext fun b => funext fun a => funext fun r => ?_)
        rw [ih _ _ h.2.2]
theorem lw_val_congr {k : Mk} {v v' : Nat → Int32} (hv : ∀ j, j < 7 → v j = v' j) : ∀ (w : Lw) (b : Nat), lw_in k b w → lw_val v w = lw_val v' w := by
  intro w
  induction w with
  | nil => intro _ _; rfl
  | cons z t ih =>
    obtain ⟨x, e⟩ := z
    intro b h
    cases x with
    | none =>
      obtain ⟨_, _, h, _⟩ := h
      rw [lw_val, lw_val, ex_val_congr hv _ _ _ h]
    | some w =>
      obtain ⟨_, _, h1, h2, h3, h⟩ := h
      rw [lw_val, lw_val, ex_val_congr hv _ _ _ h1, ex_val_congr hv _ _ _ h2, ex_val_congr hv _ _ _ h3, ih _ h]
theorem n_held_m {x m : Int32} (h1 : -m < m) : n_held x m = if x < -m then -m else if m < x then m else x := by
  unfold n_held
  by_cases h2 : x < -m
  · have h3 : x < m := Int32.lt_trans h2 h1
    rw [if_pos h3, if_pos h2, if_neg (fun z => absurd (Int32.lt_trans z h2) (Int32.lt_irrefl))]
  · rw [if_neg h2]
    by_cases h3 : m < x
    · have h4 : ¬ x < m := fun z => absurd (Int32.lt_trans z h3) (Int32.lt_irrefl)
      rw [if_neg h4, if_pos h1, if_pos h3]
    · rw [if_neg h3]
      by_cases h4 : x < m
      · rw [if_pos h4]
        by_cases h5 : -m < x
        · rw [if_pos h5]
        · rw [if_neg h5]
          exact Int32.le_antisymm (Int32.not_lt.mp h2) (Int32.not_lt.mp h5)
      · rw [if_neg h4, if_pos h1]
        exact Int32.le_antisymm (Int32.not_lt.mp h4) (Int32.not_lt.mp h3)
def lsg (l w : Nat) : Nat := if w = 0 then 384 else 4 * l + (w - 1)
section M1
variable {g : am_H} {k : Mk} {v pl : Nat → Int32} {br lo : Int32} {c ct pr pt cm bf bt : Nat → Int32}
variable {lv : Nat} {T : Sd} {W : Nat → Lw}
theorem c_al {Q : Option Value → am_H → Prop} {l w : Nat} (hl : l < 400) (hw : w < 4) (q : Q (some (.int (nI (l / 3 % 8)))) (mh g k v pl br lo c ct pr pt cm bf bt)) : AC am_P 0 0 225 [.int (nI (4 * l + w))] (mh g k v pl br lo c ct pr pt cm bf bt) Q := c_X11_alongOf (by omega) (by rw [show (4 * l + w) / 12 % 8 = l / 3 % 8 by omega]; exact q)
theorem c_ac {Q : Option Value → am_H → Prop} {l w : Nat} (hl : l < 400) (hw : w < 4) (q : Q (some (.int (nI (l / 3 / 8)))) (mh g k v pl br lo c ct pr pt cm bf bt)) : AC am_P 0 0 226 [.int (nI (4 * l + w))] (mh g k v pl br lo c ct pr pt cm bf bt) Q := c_X11_acrossOf (by omega) (by rw [show (4 * l + w) / 96 = l / 3 / 8 by omega]; exact q)
theorem c_fc {Q : Option Value → am_H → Prop} {l w : Nat} (hl : l < 400) (hw : w < 4) (q : Q (some (.int (nI (l % 3)))) (mh g k v pl br lo c ct pr pt cm bf bt)) : AC am_P 0 0 240 [.int (nI (4 * l + w))] (mh g k v pl br lo c ct pr pt cm bf bt) Q := c_X11_faceOf (by omega) (by rw [show (4 * l + w) / 4 % 3 = l % 3 by omega]; exact q)
theorem c_num {Q : Option Value → am_H → Prop} {s f w : Nat} (q : Q (some (.int (nI (4 * (s * 3 + f) + w)))) (mh g k v pl br lo c ct pr pt cm bf bt)) : AC am_P 0 0 222 [.int (nI (s % 8)), .int (nI (s / 8)), .int (nI f), .int (nI w)] (mh g k v pl br lo c ct pr pt cm bf bt) Q := c_X11_numberOf (by rw [show ((8 * (s / 8) + s % 8) * 3 + f) * 4 + w = 4 * (s * 3 + f) + w by omega]; exact q)
theorem c_X11_sortOf {Q : Option Value → am_H → Prop} {l w : Nat} (hl0 : k.1 18 = nI lv) (hlv : lv < 2) (hl : l < 96) (hw : w < 4) (q : Q (some (.int (k.2.1 24 (32 * lv + 8 * (l / 3 / 8) + l / 3 % 8)))) (mh g k v pl br lo c ct pr pt cm bf bt)) : AC am_P 1 22 224 [.ref 121, .int (nI (4 * l + w))] (mh g k v pl br lo c ct pr pt cm bf bt) Q := by
  refine AC.of (ls := [_, _]) rfl ?_
  refine aw rfl rfl ?_
  refine aw rfl rfl ?_
  refine aw_cs (d1 := 0) (L1 := 0) rfl rfl (by decide) (by decide) (Nat.le_of_ble_eq_true rfl) (c_al (by omega) (by omega) ?_)
  refine aw rfl rfl ?_
  refine aw_cs (d1 := 0) (L1 := 0) rfl rfl (by decide) (by decide) (Nat.le_of_ble_eq_true rfl) (c_ac (by omega) (by omega) ?_)
  refine aw_cv (d1 := 0) (L1 := 0) rfl rfl mg_121 rfl rfl (by decide) (by decide) (Nat.le_of_ble_eq_true rfl) (c_X11_sortAt hl0 (by omega) ?_)
  exact aw_iret rfl rfl q
theorem c_so {Q : Option Value → am_H → Prop} {l w : Nat} (hM : MR k lv T W) (hG : GS T) (hl : l < 96) (hw : w < 4) (ha : l / 3 % 8 < T.1 0) (he : l / 3 / 8 < T.1 1) (q : Q (some (.int (T.2 0 (l / 3)))) (mh g k v pl br lo c ct pr pt cm bf bt)) : AC am_P 1 22 224 [.ref 121, .int (nI (4 * l + w))] (mh g k v pl br lo c ct pr pt cm bf bt) Q := c_X11_sortOf hM.2.1 hM.1 hl hw (by rw [hM.2.2.2.2.2.2.2.2.2.1 _ _ ha he, show l / 3 / 8 * 8 + l / 3 % 8 = l / 3 by omega]; exact q)
theorem c_sa {Q : Option Value → am_H → Prop} {a e : Nat} (hM : MR k lv T W) (hG : GS T) (ha : a < T.1 0) (he : e < T.1 1) (q : Q (some (.int (T.2 0 (e * 8 + a)))) (mh g k v pl br lo c ct pr pt cm bf bt)) : AC am_P 0 0 227 [.ref 121, .int (nI a), .int (nI e)] (mh g k v pl br lo c ct pr pt cm bf bt) Q := by
  obtain ⟨m0, m1, mr, mw, mf, mk, mli, mt, ms, msq, moc, mwy, msp, mlw⟩ := hM
  obtain ⟨⟨g0, g0x⟩, ⟨g1, g1x⟩, ⟨g2, g2x⟩, ⟨g3, g3x⟩, g4, ⟨g5, g5x⟩, g6, gsq, goc, gwt, gsp, gfr⟩ := hG
  exact c_X11_sortAt m1 (by omega) (by rw [msq a e ha he]; exact q)
theorem c_X11_held {Q : Option Value → am_H → Prop} {x m : Int32} (hm : -m < m) (q : Q (some (.int (n_held x m))) (mh g k v pl br lo c ct pr pt cm bf bt)) : AC am_P 0 0 241 [.int x, .int m] (mh g k v pl br lo c ct pr pt cm bf bt) Q := by
  refine AC.of (ls := [_, _]) rfl ?_
  rw [n_held_m hm] at q
  refine aw rfl rfl ?_
  refine aw rfl rfl ?_
  refine aw rfl rfl ?_
  refine aw_ige rfl (fun c3 => ?_) (fun c3 => ?_)
  · refine aw rfl rfl ?_
    refine aw rfl rfl ?_
    refine aw_ile rfl (fun c13 => ?_) (fun c13 => ?_)
    · refine aw rfl rfl ?_
      exact aw_iret rfl rfl (by rw [if_neg (Int32.not_lt.mpr c3), if_neg (Int32.not_lt.mpr c13)] at q; exact q)
    · refine aw rfl rfl ?_
      refine aw rfl rfl ?_
      exact aw_iret rfl rfl (by rw [if_neg (Int32.not_lt.mpr c3), if_pos (Int32.not_le.mp c13)] at q; exact q)
  · refine aw rfl rfl ?_
    refine aw rfl rfl ?_
    refine aw rfl rfl ?_
    exact aw_iret rfl rfl (by rw [if_pos (Int32.not_le.mp c3)] at q; exact q)
theorem c_X11_losing {Q : Option Value → am_H → Prop} {l w : Nat} (hl : l < 96) (hw : w < 4) (q : Q (some (.int (nI (lsg l w)))) (mh g k v pl br lo c ct pr pt cm bf bt)) : AC am_P 0 0 242 [.int (nI (4 * l + w))] (mh g k v pl br lo c ct pr pt cm bf bt) Q := by
  refine AC.of (ls := [_]) rfl ?_
  refine aw rfl rfl ?_
  refine aw_c (v := nI 4) rfl (by decide) ?_
  refine aw_remn rfl (by omega) (by omega) (by omega) ?_
  refine aw_len rfl (fun c3 => ?_) (fun c3 => ?_)
  · refine aw_c (v := nI 384) rfl (by decide) ?_
    exact aw_iret rfl rfl (by rw [lsg, if_pos (by omega)] at q; exact q)
  · refine aw rfl rfl ?_
    refine aw_c (v := nI 1) rfl (by decide) ?_
    refine aw_subn rfl (by omega) ?_
    refine aw rfl rfl ?_
    exact aw_iret rfl rfl (by rw [lsg, if_neg (by omega)] at q; rw [show 4 * l + w - 1 = 4 * l + (w - 1) by omega]; exact q)
theorem c_asks {Q : Option Value → am_H → Prop} {i : Nat} (hM : MR k lv T W) (hG : GS T) (hi : i < 3) (q : ∀ pl br, Q (some (.int (lwf W i (v 0) (v 1) (v 2) (v 3) (v 4) (v 5) (v 6)))) (mh g k v pl br lo c ct pr pt cm bf bt)) : AC am_P 1 27 233 [.ref 121, .int (nI i)] (mh g k v pl br lo c ct pr pt cm bf bt) Q := by
  obtain ⟨m0, m1, mr, mw, mf, mk, mli, mt, ms, msq, moc, mwy, msp, mlw⟩ := hM
  obtain ⟨b, hb1, hb2, hb3, hb4, _⟩ := mlw i hi
  refine c_X11_asks m1 m0 hi hb1 hb2 hb3 hb4 (fun pl br => ?_)
  have e : lw_val v (W i) = lwf W i (v 0) (v 1) (v 2) (v 3) (v 4) (v 5) (v 6) := by
    refine lw_val_congr (fun j hj => ?_) _ _ hb3
    match j, hj with
    | 0, _ => rfl
    | 1, _ => rfl
    | 2, _ => rfl
    | 3, _ => rfl
    | 4, _ => rfl
    | 5, _ => rfl
    | 6, _ => rfl
  rw [e]
  exact q pl br
theorem c_X11_isBarred {Q : Option Value → am_H → Prop} (hM : MR k lv T W) (hG : GS T) {a e : Nat} {x : Int32} (ha : a < T.1 0) (he : e < T.1 1) (q1 : n_car T (lwf W) (e * 8 + a) x → ∀ v pl br, Q (some (.int (nI 1))) (mh g k v pl br lo c ct pr pt cm bf bt)) (q0 : ¬ n_car T (lwf W) (e * 8 + a) x → ∀ v pl br, Q (some (.int (nI 0))) (mh g k v pl br lo c ct pr pt cm bf bt)) : AC am_P 2 52 232 [.ref 121, .int (nI a), .int (nI e), .int x] (mh g k v pl br lo c ct pr pt cm bf bt) Q := by
  refine AC.of (ls := [_, _, _, _]) rfl ?_
  have hM0 := hM
  have hG0 := hG
  obtain ⟨m0, m1, mr, mw, mf, mk, mli, mt, ms, msq, moc, mwy, msp, mlw⟩ := hM
  obtain ⟨⟨g0, g0x⟩, ⟨g1, g1x⟩, ⟨g2, g2x⟩, ⟨g3, g3x⟩, g4, ⟨g5, g5x⟩, g6, gsq, goc, gwt, gsp, gfr⟩ := hG
  have ec : (0 < lwf W 2 (nI a) (nI e) (nI 0) (T.2 0 (e * 8 + a)) (-1) (nI 0) x) = n_car T (lwf W) (e * 8 + a) x := by rw [n_car, show (e * 8 + a) % 8 = a by omega, show (e * 8 + a) / 8 = e by omega]
  refine aw rfl rfl ?_
  refine aw_getf rfl mg_121 rfl ?_
  refine aw_c (v := nI 0) rfl (by decide) ?_
  refine aw rfl rfl ?_
  refine aw_iastU rfl mg_155 rfl (by omega) (by decide) (by decide) mu_155 ?_
  refine aw rfl rfl ?_
  refine aw_getf rfl mg_121 rfl ?_
  refine aw_c (v := nI 1) rfl (by decide) ?_
  refine aw rfl rfl ?_
  refine aw_iastU rfl mg_155 rfl (by omega) (by decide) (by decide) mu_155 ?_
  refine aw rfl rfl ?_
  refine aw_getf rfl mg_121 rfl ?_
  refine aw_c (v := nI 2) rfl (by decide) ?_
  refine aw_c (v := nI 0) rfl (by decide) ?_
  refine aw_iastU rfl mg_155 rfl (by omega) (by decide) (by decide) mu_155 ?_
  refine aw rfl rfl ?_
  refine aw_getf rfl mg_121 rfl ?_
  refine aw_c (v := nI 3) rfl (by decide) ?_
  refine aw rfl rfl ?_
  refine aw rfl rfl ?_
  refine aw rfl rfl ?_
  refine aw_cv (d1 := 0) (L1 := 0) rfl rfl mg_121 rfl rfl (by decide) (by decide) (Nat.le_of_ble_eq_true rfl) (c_sa hM0 hG0 ha he ?_)
  refine aw_iastU rfl mg_155 rfl (by omega) (by decide) (by decide) mu_155 ?_
  refine aw rfl rfl ?_
  refine aw_getf rfl mg_121 rfl ?_
  refine aw_c (v := nI 4) rfl (by decide) ?_
  refine aw_c (v := -1) rfl (by decide) ?_
  refine aw_iastU rfl mg_155 rfl (by omega) (by decide) (by decide) mu_155 ?_
  refine aw rfl rfl ?_
  refine aw_getf rfl mg_121 rfl ?_
  refine aw_c (v := nI 5) rfl (by decide) ?_
  refine aw_c (v := nI 0) rfl (by decide) ?_
  refine aw_iastU rfl mg_155 rfl (by omega) (by decide) (by decide) mu_155 ?_
  refine aw rfl rfl ?_
  refine aw_getf rfl mg_121 rfl ?_
  refine aw_c (v := nI 6) rfl (by decide) ?_
  refine aw rfl rfl ?_
  refine aw_iastU rfl mg_155 rfl (by omega) (by decide) (by decide) mu_155 ?_
  refine aw rfl rfl ?_
  refine aw_c (v := nI 2) rfl (by decide) ?_
  refine aw_cv (d1 := 1) (L1 := 27) rfl rfl mg_121 rfl rfl (by decide) (by decide) (Nat.le_of_ble_eq_true rfl) (c_asks hM0 hG0 (by decide) (fun pl br => ?_))
  refine aw_le rfl (fun c60 => ?_) (fun c60 => ?_)
  · refine aw_c (v := nI 0) rfl (by decide) ?_
    exact aw_iret rfl rfl (q0 (by rw [← ec]; exact Int32.not_lt.mpr c60) _ _ _)
  · refine aw_c (v := nI 1) rfl (by decide) ?_
    refine aw rfl rfl ?_
    exact aw_iret rfl rfl (q1 (by rw [← ec]; exact Int32.not_le.mp c60) _ _ _)
end M1
