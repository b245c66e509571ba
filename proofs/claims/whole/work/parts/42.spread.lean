/-! ===== the reference: comes ===== -/
def CE (c : Nat → Int32) (D : Nat → Nat) : Prop := ∀ s, s < 385 → c s = nI (D s)
def VS (F : Nat → Nat → Nat) (s : Nat) : Nat := if s = 384 then 0 else F (s / 4) (s % 4)
def pV (E : Nat → Nat) (F : Nat → Nat → Nat) : Nat := sm (fun s => E s * VS F s) 385
def SU (T : Sd) (E : Nat → Nat) : Prop := ∀ s, s < 384 → ¬ lieOK T (s / 4) → E s = 0
def SP (T : Sd) (F : Nat → Nat → Nat) (E E' : Nat → Nat) (x y : Nat) : Prop := pV E' F = pV E F + y ∧ sm E' 385 = sm E 385 + x ∧ (SU T E → SU T E')
theorem sm_congr {f g : Nat → Nat} : ∀ n, (∀ i, i < n → f i = g i) → sm f n = sm g n := by
  intro n
  induction n with
  | zero => intro _; rfl
  | succ n ih => intro h; show sm f n + f n = sm g n + g n; rw [ih (fun i hi => h i (by omega)), h n (by omega)]
theorem vu_at {α : Type} {f : Nat → α} {k : Nat} {x : α} : va_up f k x k = x := by unfold va_up; exact if_pos rfl
theorem vu_ot {α : Type} {f : Nat → α} {k j : Nat} {x : α} (h : ¬ j = k) : va_up f k x j = f j := by unfold va_up; exact if_neg h
theorem sm_up {E V : Nat → Nat} {m x : Nat} : ∀ n, m < n → sm (fun s => va_up E m (E m + x) s * V s) n = sm (fun s => E s * V s) n + x * V m := by
  intro n
  induction n with
  | zero => intro h; omega
  | succ n ih =>
    intro h
    show sm (fun s => va_up E m (E m + x) s * V s) n + va_up E m (E m + x) n * V n = sm (fun s => E s * V s) n + E n * V n + x * V m
    by_cases e : m = n
    · subst e
      rw [vu_at, sm_congr (g := fun s => E s * V s) m (fun i hi => by show va_up E m (E m + x) i * V i = E i * V i; rw [vu_ot (by omega)]), Nat.add_mul]
      omega
    · rw [ih (by omega), vu_ot (fun z => e z.symm)]
      omega
theorem sm_one {E : Nat → Nat} : ∀ n, sm (fun s => E s * 1) n = sm E n := fun n => sm_congr n (fun i _ => Nat.mul_one _)
theorem sp_up {T : Sd} {F : Nat → Nat → Nat} {E : Nat → Nat} {m x : Nat} (hm : m < 385) (hs : m = 384 ∨ lieOK T (m / 4)) : SP T F E (va_up E m (E m + x)) x (x * VS F m) := by
  refine ⟨sm_up _ hm, ?_, fun h s hs1 hs2 => ?_⟩
  · have := sm_up (E := E) (V := fun _ => 1) (m := m) (x := x) 385 hm
    rw [sm_one, sm_one, Nat.mul_one] at this
    exact this
  · rw [vu_ot (fun z => ?_)]
    · exact h s hs1 hs2
    · subst z
      rcases hs with z | z
      · omega
      · exact hs2 z
theorem sp_tr {T : Sd} {F : Nat → Nat → Nat} {E E1 E2 : Nat → Nat} {x y x1 y1 : Nat} (h : SP T F E E1 x y) (h1 : SP T F E1 E2 x1 y1) : SP T F E E2 (x + x1) (y + y1) := ⟨by rw [h1.1, h.1, Nat.add_assoc], by rw [h1.2.1, h.2.1, Nat.add_assoc], fun z => h1.2.2 (h.2.2 z)⟩
theorem sp_rf {T : Sd} {F : Nat → Nat → Nat} {E : Nat → Nat} : SP T F E E 0 0 := ⟨(Nat.add_zero _).symm, (Nat.add_zero _).symm, id⟩
theorem CE.up {c : Nat → Int32} {D : Nat → Nat} {m x : Nat} (h : CE c D) : CE (upd c m (nI x)) (va_up D m x) := by
  intro s hs
  by_cases e : s = m
  · subst e; rw [vu_at]; unfold upd; exact if_pos rfl
  · rw [vu_ot e]; unfold upd; rw [if_neg e]; exact h s hs
theorem vs_lsg {F : Nat → Nat → Nat} {l w : Nat} (hl : l < 96) (hw : w < 4) : VS F (lsg l w) = if w = 0 then 0 else F l (w - 1) := by
  unfold VS lsg
  by_cases h : w = 0
  · rw [if_pos h, if_pos h, if_pos rfl]
  · rw [if_neg h, if_neg h, if_neg (by omega), show (4 * l + (w - 1)) / 4 = l by omega, show (4 * l + (w - 1)) % 4 = w - 1 by omega]
theorem vs_on {F : Nat → Nat → Nat} {l w : Nat} (hl : l < 96) (hw : w < 4) : VS F (4 * l + w) = F l w := by
  unfold VS
  rw [if_neg (by omega), show (4 * l + w) / 4 = l by omega, show (4 * l + w) % 4 = w by omega]
theorem lsg_ok {T : Sd} {l w : Nat} (hl : lieOK T l) (hw : w < 4) : lsg l w = 384 ∨ lieOK T (lsg l w / 4) := by
  unfold lsg
  by_cases h : w = 0
  · rw [if_pos h]; exact Or.inl rfl
  · rw [if_neg h, show (4 * l + (w - 1)) / 4 = l by omega]; exact Or.inr hl
theorem on_ok {T : Sd} {l w : Nat} (hl : lieOK T l) (hw : w < 4) : 4 * l + w = 384 ∨ lieOK T ((4 * l + w) / 4) := by
  rw [show (4 * l + w) / 4 = l by omega]; exact Or.inr hl
theorem sm_mul {f : Nat → Nat} {a : Nat} : ∀ n, sm (fun i => f i * a) n = sm f n * a := by
  intro n
  induction n with
  | zero => exact (Nat.zero_mul _).symm
  | succ n ih => show sm (fun i => f i * a) n + f n * a = (sm f n + f n) * a; rw [ih, Nat.add_mul]
section M1
variable {g : am_H} {k : Mk} {v pl : Nat → Int32} {br lo : Int32} {c ct pr pt cm bf bt : Nat → Int32}
variable {lv : Nat} {T : Sd} {W : Nat → Lw}
variable {S : Nat → Nat}
theorem c_spreadsL {Q : Option Value → am_H → Prop} (hM : MR k lv T W) (hG : GS T)  {D E : Nat → Nat} {F : Nat → Nat → Nat} {x : Int32} {j : Nat} (hD : CE c D) (hE : CE ct E) (q : ∀ ct' E', CE ct' E' → SP T F E E' (6 * D 384) 0 → Q none (mh g k v pl br lo c ct' pr pt cm bf bt)) : AC am_P 4 107 271 [.ref 121, .int (nI 384), .int (nI j), .int x] (mh g k v pl br lo c ct pr pt cm bf bt) Q := by
  refine AC.of (ls := [_, _, _, _, _]) rfl ?_
  refine aw rfl rfl ?_
  refine aw_c (v := nI 384) rfl (by decide) ?_
  refine aw_ieq rfl (fun _ => ?_) (fun c => absurd (by decide) c)
  refine aw rfl rfl ?_
  refine aw_getf rfl mg_121 rfl ?_
  refine aw rfl rfl ?_
  refine aw rfl rfl ?_
  refine aw_ialdE rfl mg_160 rfl (by omega) (by decide) (hE _ (by decide)) ?_
  refine aw_c (v := nI 6) rfl (by decide) ?_
  refine aw rfl rfl ?_
  refine aw_getf rfl mg_121 rfl ?_
  refine aw rfl rfl ?_
  refine aw_ialdE rfl mg_159 rfl (by omega) (by decide) (hD _ (by decide)) ?_
  refine aw_muln rfl ?_
  refine aw_addn rfl ?_
  refine aw_iastU rfl mg_160 rfl (by omega) (by decide) (by decide) mu_160 ?_
  refine aw rfl rfl ?_
  exact aw_vret rfl rfl (q _ _ hE.up (by have := sp_up (T := T) (F := F) (E := E) (x := 6 * D 384) (m := 384) (by decide) (Or.inl rfl); rw [show VS F 384 = 0 from rfl, Nat.mul_zero] at this; exact this))
theorem c_X11_spreadsOne {Q : Option Value → am_H → Prop} (hM : MR k lv T W) (hG : GS T) {D E : Nat → Nat} {F : Nat → Nat → Nat} {x : Int32} {j : Nat} (hD : CE c D) (hE : CE ct E) {l w : Nat} (hl : lieOK T l) (hw : w < 4) (hj : j < T.1 3) (q : ∀ v pl br lo ct' E', CE ct' E' → SP T F E E' (6 * D (4 * l + w)) (D (4 * l + w) * (if hm T l = true then 6 * F l w else va T (lwf W) F l w (act T (lwf W) F (some j) l w x) x)) → Q none (mh g k v pl br lo c ct' pr pt cm bf bt)) : AC am_P 4 107 271 [.ref 121, .int (nI (4 * l + w)), .int (nI j), .int x] (mh g k v pl br lo c ct pr pt cm bf bt) Q := by
  refine AC.of (ls := [_, _, _, _, _]) rfl ?_
  have hM0 := hM
  have hG0 := hG
  obtain ⟨m0, m1, mr, mw, mf, mk, mli, mt, ms, msq, moc, mwy, msp, mlw⟩ := hM
  obtain ⟨⟨g0, g0x⟩, ⟨g1, g1x⟩, ⟨g2, g2x⟩, ⟨g3, g3x⟩, g4, ⟨g5, g5x⟩, g6, gsq, goc, gwt, gsp, gfr⟩ := hG
  have hl96 := hl.1
  have hls := lsg_lt hl96 hw
  have hE4 := hE
  have hg := goc j hj
  have hoc : k.2.1 27 (4 * lv + j) = nI (oc T j) := (moc j hj).trans hg.1
  have ho6 := hg.2.2.1
  refine aw rfl rfl ?_
  refine aw_c (v := nI 384) rfl (by decide) ?_
  refine aw_ieqn rfl (fun c4 => by omega) (fun c4 => ?_)
  refine aw rfl rfl ?_
  refine aw rfl rfl ?_
  refine aw_cv (d1 := 1) (L1 := 22) rfl rfl mg_121 rfl rfl (by decide) (by decide) (Nat.le_of_ble_eq_true rfl) (c_so hM0 hG0 hl96 hw hl.2.1 hl.2.2.1 ?_)
  refine aw_c (v := nI 6) rfl (by decide) ?_
  refine aw_ine rfl (fun c14 => ?_) (fun c14 => ?_)
  · refine aw rfl rfl ?_
    refine aw rfl rfl ?_
    refine aw rfl rfl ?_
    refine aw_cv (d1 := 2) (L1 := 43) rfl rfl mg_121 rfl rfl (by decide) (by decide) (Nat.le_of_ble_eq_true rfl) (c_X11_canKick hM0 hG0 hl hw hj (fun hz => ?_) (fun z0 => ?_))
    · refine aw_ne rfl (fun _ => ?_) (fun c => absurd c (by decide))
      refine aw_c (v := nI 0) rfl (by decide) ?_
      refine aw_ist (ls' := [_, _, _, _, _]) rfl rfl ?_
      refine aw_loop (α := (Nat → Int32) × (Nat → Int32) × Int32 × Int32 × (Nat → Int32) × (Nat → Nat)) (ll := fun i y => [some (.ref 121), some (.int (nI (4 * l + w))), some (.int (nI j)), some (.int x), some (.int (nI i))]) (hh := fun i y => mh g k y.1 y.2.1 y.2.2.1 y.2.2.2.1 c y.2.2.2.2.1 pr pt cm bf bt) (I := fun i y => CE y.2.2.2.2.1 y.2.2.2.2.2 ∧ SP T F E y.2.2.2.2.2 (sm (fun o => sx T (6 * j + o)) i * D (4 * l + w)) (D (4 * l + w) * sm (fun o => sx T (6 * j + o) * ld T (lwf W) F l w (6 * j + o) x) i)) (N := oc T j) (fun i y hi hI ih => ?_) (fun y hI => ?_) 0 (v, pl, br, lo, ct, E) (Nat.zero_le _) ⟨hE, by rw [show sm (fun o => sx T (6 * j + o)) 0 * D (4 * l + w) = 0 from Nat.zero_mul _]; exact sp_rf⟩
      · skip
        obtain ⟨v, pl, br, lo, ct', E'⟩ := y
        obtain ⟨hE1, hS1⟩ := hI
        dsimp only at hE1 hS1 ⊢
        have hgo := hg.2.2.2.2 i hi
        have hsx : k.2.1 28 (6 * (4 * lv + j) + i) = nI (sx T (6 * j + i)) := (mwy j i hj hi).1.trans hgo.1
        refine aw rfl rfl ?_
        refine aw rfl rfl ?_
        refine aw_getf rfl mg_121 rfl ?_
        refine aw_c (v := nI 4) rfl (by decide) ?_
        refine aw rfl rfl ?_
        refine aw_getfE rfl mg_121 rfl (congrArg Value.int m1) ?_
        refine aw_muln rfl ?_
        refine aw rfl rfl ?_
        refine aw_addn rfl ?_
        refine aw_ialdE rfl mg_135 rfl (by omega) (by decide) hoc ?_
        refine aw_igen rfl (fun c91 => by omega) (fun c91 => ?_)
        refine aw rfl rfl ?_
        refine aw_getf rfl mg_121 rfl ?_
        refine aw rfl rfl ?_
        refine aw rfl rfl ?_
        refine aw rfl rfl ?_
        refine aw rfl rfl ?_
        refine aw rfl rfl ?_
        refine aw_cv (d1 := 3) (L1 := 75) rfl rfl mg_121 rfl rfl (by decide) (by decide) (Nat.le_of_ble_eq_true rfl) (c_X11_brought hM0 hG0 hl hw hj hi (fun z v pl br => ?_) (fun m z z2 v pl br => ?_))
        · refine aw rfl rfl ?_
          refine aw_ialdE rfl mg_160 rfl (by omega) (by decide) (hE1 _ hls) ?_
          refine aw rfl rfl ?_
          refine aw_getf rfl mg_121 rfl ?_
          refine aw_c (v := nI 6) rfl (by decide) ?_
          refine aw_c (v := nI 4) rfl (by decide) ?_
          refine aw rfl rfl ?_
          refine aw_getfE rfl mg_121 rfl (congrArg Value.int m1) ?_
          refine aw_muln rfl ?_
          refine aw rfl rfl ?_
          refine aw_addn rfl ?_
          refine aw_muln rfl ?_
          refine aw rfl rfl ?_
          refine aw_addn rfl ?_
          refine aw_ialdE rfl mg_136 rfl (by omega) (by decide) hsx ?_
          refine aw rfl rfl ?_
          refine aw_getf rfl mg_121 rfl ?_
          refine aw rfl rfl ?_
          refine aw_ialdE rfl mg_159 rfl (by omega) (by decide) (hD _ (by omega)) ?_
          refine aw_muln rfl ?_
          refine aw_addn rfl ?_
          refine aw_iastU rfl mg_160 rfl (by omega) (by decide) (by decide) mu_160 ?_
          refine aw_incn (c := 1) (ls' := [_, _, _, _, _]) rfl rfl (by decide) rfl ?_
          refine aw rfl rfl ?_
          refine ih (_, _, _, _, _, _) ⟨hE1.up, ?_⟩
          have h9 := sp_tr hS1 (sp_up (T := T) (F := F) (E := E') (x := sx T (6 * j + i) * D (4 * l + w)) (m := lsg l w) hls (lsg_ok hl hw))
          rw [vs_lsg hl96 hw, ← ld_lost (F := F) (w := w) z] at h9
          rw [show sm (fun o => sx T (6 * j + o)) (i + 1) * D (4 * l + w) = sm (fun o => sx T (6 * j + o)) i * D (4 * l + w) + sx T (6 * j + i) * D (4 * l + w) from Nat.add_mul _ _ _, show D (4 * l + w) * sm (fun o => sx T (6 * j + o) * ld T (lwf W) F l w (6 * j + o) x) (i + 1) = D (4 * l + w) * sm (fun o => sx T (6 * j + o) * ld T (lwf W) F l w (6 * j + o) x) i + sx T (6 * j + i) * D (4 * l + w) * ld T (lwf W) F l w (6 * j + i) x by show D (4 * l + w) * (sm (fun o => sx T (6 * j + o) * ld T (lwf W) F l w (6 * j + o) x) i + sx T (6 * j + i) * ld T (lwf W) F l w (6 * j + i) x) = _; rw [Nat.mul_add, Nat.mul_comm (sx T (6 * j + i)) (D (4 * l + w)), Nat.mul_assoc]]
          exact h9
        · have hm96 := z2.1
          refine aw rfl rfl ?_
          refine aw_ialdE rfl mg_160 rfl (by omega) (by decide) (hE1 _ (by omega)) ?_
          refine aw rfl rfl ?_
          refine aw_getf rfl mg_121 rfl ?_
          refine aw_c (v := nI 6) rfl (by decide) ?_
          refine aw_c (v := nI 4) rfl (by decide) ?_
          refine aw rfl rfl ?_
          refine aw_getfE rfl mg_121 rfl (congrArg Value.int m1) ?_
          refine aw_muln rfl ?_
          refine aw rfl rfl ?_
          refine aw_addn rfl ?_
          refine aw_muln rfl ?_
          refine aw rfl rfl ?_
          refine aw_addn rfl ?_
          refine aw_ialdE rfl mg_136 rfl (by omega) (by decide) hsx ?_
          refine aw rfl rfl ?_
          refine aw_getf rfl mg_121 rfl ?_
          refine aw rfl rfl ?_
          refine aw_ialdE rfl mg_159 rfl (by omega) (by decide) (hD _ (by omega)) ?_
          refine aw_muln rfl ?_
          refine aw_addn rfl ?_
          refine aw_iastU rfl mg_160 rfl (by omega) (by decide) (by decide) mu_160 ?_
          refine aw_incn (c := 1) (ls' := [_, _, _, _, _]) rfl rfl (by decide) rfl ?_
          refine aw rfl rfl ?_
          refine ih (_, _, _, _, _, _) ⟨hE1.up, ?_⟩
          have h9 := sp_tr hS1 (sp_up (T := T) (F := F) (E := E') (x := sx T (6 * j + i) * D (4 * l + w)) (m := 4 * m + w) (by omega) (on_ok z2 hw))
          rw [vs_on hm96 hw, ← ld_on (F := F) (w := w) z (by omega)] at h9
          rw [show sm (fun o => sx T (6 * j + o)) (i + 1) * D (4 * l + w) = sm (fun o => sx T (6 * j + o)) i * D (4 * l + w) + sx T (6 * j + i) * D (4 * l + w) from Nat.add_mul _ _ _, show D (4 * l + w) * sm (fun o => sx T (6 * j + o) * ld T (lwf W) F l w (6 * j + o) x) (i + 1) = D (4 * l + w) * sm (fun o => sx T (6 * j + o) * ld T (lwf W) F l w (6 * j + o) x) i + sx T (6 * j + i) * D (4 * l + w) * ld T (lwf W) F l w (6 * j + i) x by show D (4 * l + w) * (sm (fun o => sx T (6 * j + o) * ld T (lwf W) F l w (6 * j + o) x) i + sx T (6 * j + i) * ld T (lwf W) F l w (6 * j + i) x) = _; rw [Nat.mul_add, Nat.mul_comm (sx T (6 * j + i)) (D (4 * l + w)), Nat.mul_assoc]]
          exact h9
      · skip
        obtain ⟨v, pl, br, lo, ct', E'⟩ := y
        obtain ⟨hE1, hS1⟩ := hI
        dsimp only at hE1 hS1 ⊢
        refine aw rfl rfl ?_
        refine aw rfl rfl ?_
        refine aw_getf rfl mg_121 rfl ?_
        refine aw_c (v := nI 4) rfl (by decide) ?_
        refine aw rfl rfl ?_
        refine aw_getfE rfl mg_121 rfl (congrArg Value.int m1) ?_
        refine aw_muln rfl ?_
        refine aw rfl rfl ?_
        refine aw_addn rfl ?_
        refine aw_ialdE rfl mg_135 rfl (by omega) (by decide) hoc ?_
        refine aw_igen rfl (fun c91 => ?_) (fun c91 => by omega)
        exact aw_vret rfl rfl (q _ _ _ _ _ _ hE1 (by rw [if_neg (by unfold hm; exact fun y => c14 (of_decide_eq_true y))]; have ea : act T (lwf W) F (some j) l w x = j := (by show (if mck T l j = true then j else T.1 3) = _; rw [if_pos (mck_iff.mpr hz)]); rw [ea]; have ev : va T (lwf W) F l w j x = sm (fun o => sx T (6 * j + o) * ld T (lwf W) F l w (6 * j + o) x) (oc T j) := (by unfold va; rw [if_neg (by omega)]); rw [ev]; rw [hg.2.2.2.1] at hS1; exact hS1))
    · refine aw_ne rfl (fun c => absurd (by decide) c) (fun _ => ?_)
      refine aw rfl rfl ?_
      refine aw_getf rfl mg_121 rfl ?_
      refine aw rfl rfl ?_
      refine aw rfl rfl ?_
      refine aw rfl rfl ?_
      refine aw_cv (d1 := 3) (L1 := 75) rfl rfl mg_121 rfl rfl (by decide) (by decide) (Nat.le_of_ble_eq_true rfl) (c_X11_waited hM0 hG0 hl hw (fun z v pl br => ?_) (fun z v pl br => ?_))
      · refine aw rfl rfl ?_
        refine aw_ialdE rfl mg_160 rfl (by omega) (by decide) (hE _ hls) ?_
        refine aw_c (v := nI 6) rfl (by decide) ?_
        refine aw rfl rfl ?_
        refine aw_getf rfl mg_121 rfl ?_
        refine aw rfl rfl ?_
        refine aw_ialdE rfl mg_159 rfl (by omega) (by decide) (hD _ (by omega)) ?_
        refine aw_muln rfl ?_
        refine aw_addn rfl ?_
        refine aw_iastU rfl mg_160 rfl (by omega) (by decide) (by decide) mu_160 ?_
        refine aw rfl rfl ?_
        exact aw_vret rfl rfl (q _ _ _ _ _ _ hE.up (by rw [if_neg (by unfold hm; exact fun y => c14 (of_decide_eq_true y))]; have ea : act T (lwf W) F (some j) l w x = T.1 3 := (by show (if mck T l j = true then j else T.1 3) = _; rw [if_neg (fun y => z0 (mck_iff.mp y))]); have ev : va T (lwf W) F l w (T.1 3) x = 6 * ld T (lwf W) F l w 24 x := (by unfold va; rw [if_pos rfl]); rw [ea, ev, ld_lost z]; have := sp_up (T := T) (F := F) (E := E) (x := 6 * D (4 * l + w)) (m := lsg l w) hls (lsg_ok hl hw); rw [vs_lsg hl96 hw] at this; rw [Nat.mul_left_comm, ← Nat.mul_assoc]; exact this))
      · refine aw rfl rfl ?_
        refine aw_ialdE rfl mg_160 rfl (by omega) (by decide) (hE _ (by omega)) ?_
        refine aw_c (v := nI 6) rfl (by decide) ?_
        refine aw rfl rfl ?_
        refine aw_getf rfl mg_121 rfl ?_
        refine aw rfl rfl ?_
        refine aw_ialdE rfl mg_159 rfl (by omega) (by decide) (hD _ (by omega)) ?_
        refine aw_muln rfl ?_
        refine aw_addn rfl ?_
        refine aw_iastU rfl mg_160 rfl (by omega) (by decide) (by decide) mu_160 ?_
        refine aw rfl rfl ?_
        exact aw_vret rfl rfl (q _ _ _ _ _ _ hE.up (by rw [if_neg (by unfold hm; exact fun y => c14 (of_decide_eq_true y))]; have ea : act T (lwf W) F (some j) l w x = T.1 3 := (by show (if mck T l j = true then j else T.1 3) = _; rw [if_neg (fun y => z0 (mck_iff.mp y))]); have ev : va T (lwf W) F l w (T.1 3) x = 6 * ld T (lwf W) F l w 24 x := (by unfold va; rw [if_pos rfl]); rw [ea, ev, ld_on z (by omega)]; have := sp_up (T := T) (F := F) (E := E) (x := 6 * D (4 * l + w)) (m := 4 * l + w) (by omega) (on_ok hl hw); rw [vs_on hl96 hw] at this; rw [Nat.mul_left_comm, ← Nat.mul_assoc]; exact this))
  · refine aw rfl rfl ?_
    refine aw_getf rfl mg_121 rfl ?_
    refine aw rfl rfl ?_
    refine aw rfl rfl ?_
    refine aw_ialdE rfl mg_160 rfl (by omega) (by decide) (hE _ (by omega)) ?_
    refine aw_c (v := nI 6) rfl (by decide) ?_
    refine aw rfl rfl ?_
    refine aw_getf rfl mg_121 rfl ?_
    refine aw rfl rfl ?_
    refine aw_ialdE rfl mg_159 rfl (by omega) (by decide) (hD _ (by omega)) ?_
    refine aw_muln rfl ?_
    refine aw_addn rfl ?_
    refine aw_iastU rfl mg_160 rfl (by omega) (by decide) (by decide) mu_160 ?_
    refine aw rfl rfl ?_
    exact aw_vret rfl rfl (q _ _ _ _ _ _ hE.up (by rw [if_pos (by unfold hm; exact decide_eq_true c14)]; have := sp_up (T := T) (F := F) (E := E) (x := 6 * D (4 * l + w)) (m := 4 * l + w) (by omega) (on_ok hl hw); rw [vs_on hl96 hw] at this; rw [show D (4 * l + w) * (6 * F l w) = 6 * D (4 * l + w) * F l w by rw [Nat.mul_left_comm, Nat.mul_assoc]]; exact this))
end M1
