/-! ===== how likely: what both sides fill ===== -/
def hm (T : Sd) (l : Nat) : Bool := decide (T.2 0 (l / 3) = nI 6)
def mck (T : Sd) (l j : Nat) : Bool := !(decide (T.2 0 (l / 3) = nI 3)) || decide (oc T j = 1)
theorem mck_iff {T : Sd} {l j : Nat} : mck T l j = true ↔ m_ck T l j := by
  unfold mck m_ck
  by_cases h1 : T.2 0 (l / 3) = nI 3 <;> by_cases h2 : oc T j = 1 <;> simp [h1, h2]
/-- the chance behind one way: F is what the lies are worth a step later -/
def ld (T : Sd) (LW : LWt) (F : Nat → Nat → Nat) (l w way : Nat) (x : Int32) : Nat := if n_land T LW l way x = -1 then (if w = 0 then 0 else F l (w - 1)) else F (n_land T LW l way x).toNatClampNeg w
def va (T : Sd) (LW : LWt) (F : Nat → Nat → Nat) (l w a : Nat) (x : Int32) : Nat := if a = T.1 3 then 6 * ld T LW F l w 24 x else sm (fun o => sx T (6 * a + o) * ld T LW F l w (6 * a + o) x) (oc T a)
/-- the first of the likeliest -/
def bs (f : Nat → Nat) (cn : Nat → Bool) : Nat → Option (Nat × Nat)
  | 0 => none
  | n + 1 => match bs f cn n with
    | none => bif cn n then some (n, f n) else none
    | some p => bif cn n && decide (p.2 < f n) then some (n, f n) else some p
def bs1 : Option (Nat × Nat) → Int32
  | none => -1
  | some p => nI p.1
def bs2 : Option (Nat × Nat) → Int32
  | none => -1
  | some p => nI p.2
def bsA : Option (Nat × Nat) → Nat
  | none => 0
  | some p => p.1
def cnB (T : Sd) (l : Nat) : Nat → Bool := fun a => decide (a = T.1 3) || mck T l a
def act (T : Sd) (LW : LWt) (F : Nat → Nat → Nat) (r : Option Nat) (l w : Nat) (x : Int32) : Nat := match r with
  | some j => if mck T l j = true then j else T.1 3
  | none => bsA (bs (fun a => va T LW F l w a x) (cnB T l) (T.1 3 + 1))
def lay (T : Sd) (LW : LWt) (F : Nat → Nat → Nat) (r : Option Nat) (hv : Nat → Nat) (l w : Nat) (x : Int32) : Nat := if hm T l = true then hv l else va T LW F l w (act T LW F r l w x) x
/-- with n steps left, from the second t on: gl says where it should come, r the kick that is always done -/
def Fc (T : Sd) (LW : LWt) (r : Option Nat) (gl : Nat → Bool) : Nat → Nat → Nat → Nat → Nat
  | 0, _, l, _ => bif gl l then 1 else 0
  | n + 1, t, l, w => lay T LW (Fc T LW r gl n (t + T.1 5)) r (fun l => bif gl l then 6 ^ (n + 1) else 0) l w (nI t)
theorem ld_lost {T : Sd} {LW : LWt} {F : Nat → Nat → Nat} {l w way : Nat} {x : Int32} (h : n_land T LW l way x = -1) : ld T LW F l w way x = if w = 0 then 0 else F l (w - 1) := by
  unfold ld
  rw [if_pos h]
theorem ld_on {T : Sd} {LW : LWt} {F : Nat → Nat → Nat} {l w way m : Nat} {x : Int32} (h : n_land T LW l way x = nI m) (hm : m < 2147483648) : ld T LW F l w way x = F m w := by
  unfold ld
  rw [h, if_neg (n_m1 hm), nI_clamp hm]
theorem ld_le {T : Sd} {LW : LWt} {F : Nat → Nat → Nat} {l w way : Nat} {x : Int32} {N : Nat} (h : ∀ l w, F l w ≤ N) : ld T LW F l w way x ≤ N := by
  unfold ld
  by_cases h1 : n_land T LW l way x = -1
  · rw [if_pos h1]
    by_cases h2 : w = 0
    · rw [if_pos h2]; exact Nat.zero_le _
    · rw [if_neg h2]; exact h _ _
  · rw [if_neg h1]; exact h _ _
theorem sm_le {f g : Nat → Nat} {N : Nat} : ∀ n, (∀ i, i < n → f i ≤ g i * N) → sm f n ≤ sm g n * N := by
  intro n
  induction n with
  | zero => intro _; exact Nat.zero_le _
  | succ n ih =>
    intro h
    show sm f n + f n ≤ (sm g n + g n) * N
    rw [Nat.add_mul]
    exact Nat.add_le_add (ih (fun i hi => h i (by omega))) (h n (by omega))
theorem va_le {T : Sd} {LW : LWt} {F : Nat → Nat → Nat} {l w a : Nat} {x : Int32} {N : Nat} (hG : GS T) (h : ∀ l w, F l w ≤ N) (ha : a ≤ T.1 3) : va T LW F l w a x ≤ 6 * N := by
  unfold va
  by_cases h1 : a = T.1 3
  · rw [if_pos h1]
    exact Nat.mul_le_mul_left _ (ld_le h)
  · rw [if_neg h1]
    obtain ⟨⟨g0, g0x⟩, ⟨g1, g1x⟩, ⟨g2, g2x⟩, ⟨g3, g3x⟩, g4, ⟨g5, g5x⟩, g6, gsq, goc, gwt, gsp, gfr⟩ := hG
    have h2 := sm_le (f := fun o => sx T (6 * a + o) * ld T LW F l w (6 * a + o) x) (g := fun o => sx T (6 * a + o)) (N := N) (oc T a) (fun i _ => Nat.mul_le_mul_left _ (ld_le h))
    rw [(goc a (by omega)).2.2.2.1] at h2
    exact h2
theorem bs_lt (f : Nat → Nat) (cn : Nat → Bool) : ∀ n p, bs f cn n = some p → p.1 < n ∧ p.2 = f p.1 ∧ cn p.1 = true := by
  intro n
  induction n with
  | zero => intro p h; cases h
  | succ n ih =>
    intro p h
    rw [bs] at h
    cases e : bs f cn n with
    | none =>
      rw [e] at h
      cases e2 : cn n with
      | false => rw [e2] at h; cases h
      | true => rw [e2] at h; cases h; exact ⟨by omega, rfl, e2⟩
    | some q =>
      rw [e] at h
      have h3 := ih q e
      cases e2 : (cn n && decide (q.2 < f n)) with
      | false => simp only [e2, cond_false, Option.some.injEq] at h; subst h; exact ⟨by omega, h3.2.1, h3.2.2⟩
      | true =>
        simp only [e2, cond_true, Option.some.injEq] at h
        subst h
        have h4 : cn n = true := by
          cases e5 : cn n
          · rw [e5] at e2; cases e2
          · rfl
        exact ⟨by omega, rfl, h4⟩
theorem bs_some {T : Sd} {l : Nat} {f : Nat → Nat} : ∃ p, bs f (cnB T l) (T.1 3 + 1) = some p := by
  rw [bs]
  have h : cnB T l (T.1 3) = true := by unfold cnB; simp
  cases e : bs f (cnB T l) (T.1 3) with
  | none => exact ⟨_, by rw [h]; rfl⟩
  | some q =>
    cases e2 : (cnB T l (T.1 3) && decide (q.2 < f (T.1 3))) with
    | false => exact ⟨q, by simp only [e2, cond_false]⟩
    | true => exact ⟨_, by simp only [e2, cond_true]; rfl⟩
theorem act_le {T : Sd} {LW : LWt} {F : Nat → Nat → Nat} {r : Option Nat} {l w : Nat} {x : Int32} (hr : ∀ j, r = some j → j < T.1 3) : act T LW F r l w x ≤ T.1 3 ∧ (act T LW F r l w x < T.1 3 → mck T l (act T LW F r l w x) = true) := by
  cases r with
  | some j =>
    show (if mck T l j = true then j else T.1 3) ≤ _ ∧ ((if mck T l j = true then j else T.1 3) < _ → mck T l (if mck T l j = true then j else T.1 3) = true)
    by_cases h : mck T l j = true
    · rw [if_pos h]; exact ⟨Nat.le_of_lt (hr j rfl), fun _ => h⟩
    · rw [if_neg h]; exact ⟨Nat.le_refl _, fun z => absurd z (Nat.lt_irrefl _)⟩
  | none =>
    obtain ⟨p, hp⟩ := bs_some (T := T) (l := l) (f := fun a => va T LW F l w a x)
    have h1 := bs_lt _ _ _ _ hp
    have e : act T LW F none l w x = p.1 := by show bsA (bs _ _ _) = _; rw [hp]; rfl
    rw [e]
    refine ⟨by omega, fun z => ?_⟩
    have h2 := h1.2.2
    unfold cnB at h2
    rw [show decide (p.1 = T.1 3) = false from decide_eq_false (by omega)] at h2
    exact h2
theorem Fc_le {T : Sd} {LW : LWt} {r : Option Nat} {gl : Nat → Bool} (hG : GS T) (hr : ∀ j, r = some j → j < T.1 3) : ∀ n t l w, Fc T LW r gl n t l w ≤ 6 ^ n := by
  intro n
  induction n with
  | zero => intro t l w; show (bif gl l then 1 else 0) ≤ 1; cases gl l <;> decide
  | succ n ih =>
    intro t l w
    show lay T LW _ r _ l w (nI t) ≤ _
    unfold lay
    by_cases h : hm T l = true
    · rw [if_pos h]; show (bif gl l then 6 ^ (n + 1) else 0) ≤ _; cases gl l
      · exact Nat.zero_le _
      · exact Nat.le_refl _
    · rw [if_neg h, Nat.pow_succ, Nat.mul_comm]; exact va_le hG (fun l w => ih _ l w) (act_le hr).1
/-- the reference's row of chances -/
def CT (T : Sd) (c : Nat → Int32) (F : Nat → Nat → Nat) : Prop := (∀ l w, lieOK T l → w < 4 → c (4 * l + w) = nI (F l w)) ∧ c 384 = nI 0
theorem ct_lsg {T : Sd} {c : Nat → Int32} {F : Nat → Nat → Nat} {l w : Nat} (h : CT T c F) (hl : lieOK T l) (hw : w < 4) : c (lsg l w) = nI (if w = 0 then 0 else F l (w - 1)) := by
  unfold lsg
  by_cases h1 : w = 0
  · rw [if_pos h1, if_pos h1]; exact h.2
  · rw [if_neg h1, if_neg h1]; exact h.1 l (w - 1) hl (by omega)
theorem lsg_lt {l w : Nat} (hl : l < 96) (hw : w < 4) : lsg l w < 385 := by
  unfold lsg
  by_cases h1 : w = 0
  · rw [if_pos h1]; omega
  · rw [if_neg h1]; omega
section M1
variable {g : am_H} {k : Mk} {v pl : Nat → Int32} {br lo : Int32} {c ct pr pt cm bf bt : Nat → Int32}
variable {lv : Nat} {T : Sd} {W : Nat → Lw}
theorem c_X11_isHome {Q : Option Value → am_H → Prop} {l w : Nat} (hl0 : k.1 18 = nI lv) (hlv : lv < 2) (hl : l ≤ 96) (hw : w < 4) (q1 : l < 96 → k.2.1 24 (32 * lv + 8 * (l / 3 / 8) + l / 3 % 8) = nI 6 → Q (some (.int (nI 1))) (mh g k v pl br lo c ct pr pt cm bf bt)) (q0 : (l < 96 → ¬ k.2.1 24 (32 * lv + 8 * (l / 3 / 8) + l / 3 % 8) = nI 6) → Q (some (.int (nI 0))) (mh g k v pl br lo c ct pr pt cm bf bt)) (h96 : l = 96 → w = 0) : AC am_P 2 43 223 [.ref 121, .int (nI (4 * l + w))] (mh g k v pl br lo c ct pr pt cm bf bt) Q := by
  refine AC.of (ls := [_, _]) rfl ?_
  refine aw rfl rfl ?_
  refine aw_c (v := nI 384) rfl (by decide) ?_
  refine aw_ieqn rfl (fun c4 => ?_) (fun c4 => ?_)
  · refine aw_c (v := nI 0) rfl (by decide) ?_
    exact aw_iret rfl rfl (q0 (fun _ => by omega))
  · refine aw rfl rfl ?_
    refine aw rfl rfl ?_
    refine aw_cv (d1 := 1) (L1 := 22) rfl rfl mg_121 rfl rfl (by decide) (by decide) (Nat.le_of_ble_eq_true rfl) (c_X11_sortOf hl0 hlv (by omega) hw ?_)
    refine aw_c (v := nI 6) rfl (by decide) ?_
    refine aw_ine rfl (fun c14 => ?_) (fun c14 => ?_)
    · refine aw_c (v := nI 0) rfl (by decide) ?_
      exact aw_iret rfl rfl (q0 (fun _ => c14))
    · refine aw_c (v := nI 1) rfl (by decide) ?_
      refine aw rfl rfl ?_
      exact aw_iret rfl rfl (q1 (by omega) c14)
theorem c_sixes {Q : Option Value → am_H → Prop} {n : Nat} (hn : n < 2147483648) (q : Q (some (.int (nI (6 ^ n)))) (mh g k v pl br lo c ct pr pt cm bf bt)) : AC am_P 0 0 258 [.int (nI n)] (mh g k v pl br lo c ct pr pt cm bf bt) Q := by
  refine AC.of (ls := [_, _, _]) rfl ?_
  refine aw_c (v := nI 1) rfl (by decide) ?_
  refine aw_ist (ls' := [_, _, _]) rfl rfl ?_
  refine aw_c (v := nI 0) rfl (by decide) ?_
  refine aw_ist (ls' := [_, _, _]) rfl rfl ?_
  refine aw_loop (α := Unit) (ll := fun i _ => [some (.int (nI n)), some (.int (nI (6 ^ i))), some (.int (nI i))]) (hh := fun _ _ => (mh g k v pl br lo c ct pr pt cm bf bt)) (I := fun _ _ => True) (N := n) (fun i y hi _ ih => ?_) (fun y _ => ?_) 0 () (Nat.zero_le _) trivial
  · skip
    refine aw rfl rfl ?_
    refine aw rfl rfl ?_
    refine aw_igen rfl (fun c6 => by omega) (fun c6 => ?_)
    refine aw rfl rfl ?_
    refine aw_c (v := nI 6) rfl (by decide) ?_
    refine aw_muln rfl ?_
    refine aw_ist (ls' := [_, _, _]) rfl rfl ?_
    refine aw_incn (c := 1) (ls' := [_, _, _]) rfl rfl (by decide) rfl ?_
    refine aw rfl rfl ?_
    exact ih () trivial
  · skip
    refine aw rfl rfl ?_
    refine aw rfl rfl ?_
    refine aw_igen rfl (fun c6 => ?_) (fun c6 => by omega)
    refine aw rfl rfl ?_
    exact aw_iret rfl rfl q
theorem c_X11_valueOf {Q : Option Value → am_H → Prop} (hM : MR k lv T W) (hG : GS T) {F : Nat → Nat → Nat} {l w a : Nat} {x : Int32} (hc : CT T c F) (hl : lieOK T l) (hw : w < 4) (ha : a ≤ T.1 3) (q : ∀ v pl br lo, Q (some (.int (nI (va T (lwf W) F l w a x)))) (mh g k v pl br lo c ct pr pt cm bf bt)) : AC am_P 4 107 261 [.ref 121, .int (nI (4 * l + w)), .int (nI a), .int x] (mh g k v pl br lo c ct pr pt cm bf bt) Q := by
  refine AC.of (ls := [_, _, _, _, _, _]) rfl ?_
  have hM0 := hM
  have hG0 := hG
  obtain ⟨m0, m1, mr, mw, mf, mk, mli, mt, ms, msq, moc, mwy, msp, mlw⟩ := hM
  obtain ⟨⟨g0, g0x⟩, ⟨g1, g1x⟩, ⟨g2, g2x⟩, ⟨g3, g3x⟩, g4, ⟨g5, g5x⟩, g6, gsq, goc, gwt, gsp, gfr⟩ := hG
  have hl96 := hl.1
  have hls := lsg_lt hl96 hw
  have hcl := ct_lsg hc hl hw
  by_cases e3 : a = T.1 3
  · have qe : va T (lwf W) F l w a x = 6 * ld T (lwf W) F l w 24 x := by unfold va; rw [if_pos e3]
    rw [qe] at q
    refine aw rfl rfl ?_
    refine aw rfl rfl ?_
    refine aw_getf rfl mg_121 rfl ?_
    refine aw rfl rfl ?_
    refine aw_getfE rfl mg_121 rfl (congrArg Value.int m1) ?_
    refine aw_ialdE rfl mg_134 rfl (by omega) (by decide) mk ?_
    refine aw_inen rfl (fun c10 => by omega) (fun c10 => ?_)
    refine aw_c (v := nI 6) rfl (by decide) ?_
    refine aw rfl rfl ?_
    refine aw_getf rfl mg_121 rfl ?_
    refine aw rfl rfl ?_
    refine aw rfl rfl ?_
    refine aw rfl rfl ?_
    refine aw_cv (d1 := 3) (L1 := 75) rfl rfl mg_121 rfl rfl (by decide) (by decide) (Nat.le_of_ble_eq_true rfl) (c_X11_waited hM0 hG0 hl hw (fun z v pl br => ?_) (fun z v pl br => ?_))
    · refine aw_ialdE rfl mg_159 rfl (by omega) (by decide) hcl ?_
      refine aw_muln rfl ?_
      exact aw_iret rfl rfl (by rw [ld_lost z] at q; exact q _ _ _ _)
    · refine aw_ialdE rfl mg_159 rfl (by omega) (by decide) (hc.1 l w hl hw) ?_
      refine aw_muln rfl ?_
      exact aw_iret rfl rfl (by rw [ld_on z (by omega)] at q; exact q _ _ _ _)
  · have qe : va T (lwf W) F l w a x = sm (fun o => sx T (6 * a + o) * ld T (lwf W) F l w (6 * a + o) x) (oc T a) := by unfold va; rw [if_neg e3]
    rw [qe] at q
    have ha3 : a < T.1 3 := by omega
    have hg := goc a ha3
    have hoc : k.2.1 27 (4 * lv + a) = nI (oc T a) := (moc a ha3).trans hg.1
    have ho6 := hg.2.2.1
    refine aw rfl rfl ?_
    refine aw rfl rfl ?_
    refine aw_getf rfl mg_121 rfl ?_
    refine aw rfl rfl ?_
    refine aw_getfE rfl mg_121 rfl (congrArg Value.int m1) ?_
    refine aw_ialdE rfl mg_134 rfl (by omega) (by decide) mk ?_
    refine aw_inen rfl (fun c10 => ?_) (fun c10 => by omega)
    refine aw_c (v := nI 0) rfl (by decide) ?_
    refine aw_ist (ls' := [_, _, _, _, _, _]) rfl rfl ?_
    refine aw_c (v := nI 0) rfl (by decide) ?_
    refine aw_ist (ls' := [_, _, _, _, _, _]) rfl rfl ?_
    refine aw_loop (α := (Nat → Int32) × (Nat → Int32) × Int32 × Int32) (ll := fun i y => [some (.ref 121), some (.int (nI (4 * l + w))), some (.int (nI a)), some (.int x), some (.int (nI (sm (fun o => sx T (6 * a + o) * ld T (lwf W) F l w (6 * a + o) x) i))), some (.int (nI i))]) (hh := fun _ y => mh g k y.1 y.2.1 y.2.2.1 y.2.2.2 c ct pr pt cm bf bt) (I := fun _ _ => True) (N := oc T a) (fun i y hi _ ih => ?_) (fun y _ => ?_) 0 (v, pl, br, lo) (Nat.zero_le _) trivial
    · obtain ⟨v, pl, br, lo⟩ := y
      have hgo := hg.2.2.2.2 i hi
      have hsx : k.2.1 28 (6 * (4 * lv + a) + i) = nI (sx T (6 * a + i)) := (mwy a i ha3 hi).1.trans hgo.1
      dsimp only
      refine aw rfl rfl ?_
      refine aw rfl rfl ?_
      refine aw_getf rfl mg_121 rfl ?_
      refine aw_c (v := nI 4) rfl (by decide) ?_
      refine aw rfl rfl ?_
      refine aw_getfE rfl mg_121 rfl (congrArg Value.int m1) ?_
      refine aw_muln rfl ?_
      refine aw rfl rfl ?_
      refine aw_addn rfl ?_
      refine aw_ialdE rfl mg_135 rfl (by omega) (by decide) hoc ?_
      refine aw_igen rfl (fun c49 => by omega) (fun c49 => ?_)
      refine aw rfl rfl ?_
      refine aw rfl rfl ?_
      refine aw_getf rfl mg_121 rfl ?_
      refine aw_c (v := nI 6) rfl (by decide) ?_
      refine aw_c (v := nI 4) rfl (by decide) ?_
      refine aw rfl rfl ?_
      refine aw_getfE rfl mg_121 rfl (congrArg Value.int m1) ?_
      refine aw_muln rfl ?_
      refine aw rfl rfl ?_
      refine aw_addn rfl ?_
      refine aw_muln rfl ?_
      refine aw rfl rfl ?_
      refine aw_addn rfl ?_
      refine aw_ialdE rfl mg_136 rfl (by omega) (by decide) hsx ?_
      refine aw rfl rfl ?_
      refine aw_getf rfl mg_121 rfl ?_
      refine aw rfl rfl ?_
      refine aw rfl rfl ?_
      refine aw rfl rfl ?_
      refine aw rfl rfl ?_
      refine aw rfl rfl ?_
      refine aw_cv (d1 := 3) (L1 := 75) rfl rfl mg_121 rfl rfl (by decide) (by decide) (Nat.le_of_ble_eq_true rfl) (c_X11_brought hM0 hG0 hl hw ha3 hi (fun z v pl br => ?_) (fun m z z2 v pl br => ?_))
      · try have hm96 := z2.1
        refine aw_ialdE rfl mg_159 rfl (by omega) (by decide) hcl ?_
        refine aw_muln rfl ?_
        refine aw_addn rfl ?_
        refine aw_ist (ls' := [_, _, _, _, _, _]) rfl rfl ?_
        refine aw_incn (c := 1) (ls' := [_, _, _, _, _, _]) rfl rfl (by decide) rfl ?_
        refine aw rfl rfl ?_
        rw [← ld_lost (F := F) (w := w) z]
        exact ih (v, pl, br, _) trivial
      · try have hm96 := z2.1
        refine aw_ialdE rfl mg_159 rfl (by omega) (by decide) (hc.1 m w z2 hw) ?_
        refine aw_muln rfl ?_
        refine aw_addn rfl ?_
        refine aw_ist (ls' := [_, _, _, _, _, _]) rfl rfl ?_
        refine aw_incn (c := 1) (ls' := [_, _, _, _, _, _]) rfl rfl (by decide) rfl ?_
        refine aw rfl rfl ?_
        rw [← ld_on (F := F) (w := w) z (by omega)]
        exact ih (v, pl, br, _) trivial
    · obtain ⟨v, pl, br, lo⟩ := y
      dsimp only
      refine aw rfl rfl ?_
      refine aw rfl rfl ?_
      refine aw_getf rfl mg_121 rfl ?_
      refine aw_c (v := nI 4) rfl (by decide) ?_
      refine aw rfl rfl ?_
      refine aw_getfE rfl mg_121 rfl (congrArg Value.int m1) ?_
      refine aw_muln rfl ?_
      refine aw rfl rfl ?_
      refine aw_addn rfl ?_
      refine aw_ialdE rfl mg_135 rfl (by omega) (by decide) hoc ?_
      refine aw_igen rfl (fun c49 => ?_) (fun c49 => by omega)
      refine aw rfl rfl ?_
      exact aw_iret rfl rfl (q _ _ _ _)
end M1
