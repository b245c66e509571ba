/-! ===== the reference: two by turns ===== -/
theorem n_land_lie {T : Sd} {LW : LWt} {l way : Nat} {x : Int32} (hG : GS T) (hl : lieOK T l) (hw : way = 24 ∨ ∃ j o, j < T.1 3 ∧ o < oc T j ∧ way = 6 * j + o) : n_land T LW l way x = -1 ∨ ∃ m, lieOK T m ∧ n_land T LW l way x = nI m := by
  have hG0 := hG
  obtain ⟨⟨g0, g0x⟩, ⟨g1, g1x⟩, ⟨g2, g2x⟩, ⟨g3, g3x⟩, g4, ⟨g5, g5x⟩, g6, gsq, goc, gwt, gsp, gfr⟩ := hG
  by_cases e : way = 24
  · subst e
    rw [n_land_i]
    split
    · exact Or.inl rfl
    · exact Or.inr ⟨l, hl, rfl⟩
  · obtain ⟨j, o, hj, ho, rfl⟩ := hw.resolve_left e
    obtain ⟨a, ha, hA⟩ := n_a2_in (LW := LW) (l := l) (way := 6 * j + o) (x := x) g0 g0x
    by_cases hC : n_c1 T LW l (6 * j + o) x < 0 ∨ nI (T.1 1) ≤ n_c1 T LW l (6 * j + o) x
    · exact Or.inl (n_land_out hG0 e hA ha hC)
    · obtain ⟨c, hc2, hc⟩ := nI_of (fun z => hC (Or.inl z))
      have hce : c < T.1 1 := Nat.not_le.mp (fun z => hC (Or.inr (by rw [hc]; exact nI_le z hc2)))
      have htn : n_tn T l (6 * j + o) < T.1 2 := Nat.mod_lt _ (by omega)
      obtain ⟨z6, hz6, hsort⟩ := (gsq (c * 8 + a) (by omega)).1 ⟨by omega, by omega⟩
      by_cases h5 : T.2 0 (c * 8 + a) = nI 5
      · exact Or.inr ⟨_, lie_wall hl htn g2x, n_land_wall e hA hc (by omega) (by omega) h5⟩
      · by_cases h4 : T.2 0 (c * 8 + a) = nI 4
        · exact Or.inl (n_land_gut e hA hc (by omega) (by omega) h4)
        · by_cases h6 : T.2 0 (c * 8 + a) = nI 6
          · exact Or.inr ⟨_, lie_on ha hce htn g0x g1x g2x h4 h5, n_land_on e hA hc (by omega) (by omega) (by rw [hsort]; exact n_m1 (by omega)) h4 h5 (Or.inl h6)⟩
          · by_cases h7 : n_car T LW (c * 8 + a) (x + nI (T.1 5))
            · exact Or.inl (n_land_car e hA hc (by omega) (by omega) h5 h6 h7)
            · exact Or.inr ⟨_, lie_on ha hce htn g0x g1x g2x h4 h5, n_land_on e hA hc (by omega) (by omega) (by rw [hsort]; exact n_m1 (by omega)) h4 h5 (Or.inr h7)⟩
/-- where a way brings it: a lie, or 96 -/
def tw (T : Sd) (LW : LWt) (l way : Nat) (x : Int32) : Nat := if n_land T LW l way x = -1 then 96 else (n_land T LW l way x).toNatClampNeg
def lone (T : Sd) (l : Nat) : Prop := l = 96 ∨ lieOK T l
theorem tw_lost {T : Sd} {LW : LWt} {l way : Nat} {x : Int32} (h : n_land T LW l way x = -1) : tw T LW l way x = 96 := by unfold tw; rw [if_pos h]
theorem tw_on {T : Sd} {LW : LWt} {l way m : Nat} {x : Int32} (h : n_land T LW l way x = nI m) (hm : m < 2147483648) : tw T LW l way x = m := by
  unfold tw
  rw [h, if_neg (n_m1 hm), nI_clamp hm]
theorem tw_lone {T : Sd} {LW : LWt} {l way : Nat} {x : Int32} (hG : GS T) (hl : lieOK T l) (hw : way = 24 ∨ ∃ j o, j < T.1 3 ∧ o < oc T j ∧ way = 6 * j + o) : lone T (tw T LW l way x) := by
  rcases n_land_lie (LW := LW) (x := x) hG hl hw with h | ⟨m, h1, h⟩
  · exact Or.inl (tw_lost h)
  · have := h1.1
    exact Or.inr (by rw [tw_on h (by omega)]; exact h1)
theorem lone_lt {T : Sd} {l : Nat} (h : lone T l) : l < 97 := by
  rcases h with h | h
  · omega
  · have := h.1; omega
def KR (T : Sd) (LW : LWt) (cm : Nat → Int32) (x : Int32) (i j : Nat) : Prop := mck T i j = true → ∀ o, o < oc T j → cm (30 * i + 6 * j + o) = nI (tw T LW i (6 * j + o) x)
def RW (T : Sd) (LW : LWt) (cm : Nat → Int32) (x : Int32) (i : Nat) : Prop := lieOK T i → ¬ hm T i = true → (∀ j, j < T.1 3 → KR T LW cm x i j) ∧ cm (30 * i + 6 * T.1 3) = nI (tw T LW i 24 x)
theorem upd_ne {f : Nat → Int32} {m n : Nat} {z : Int32} (h : ¬ n = m) : upd f m z n = f n := by unfold upd; exact if_neg h
theorem upd_at {f : Nat → Int32} {m : Nat} {z : Int32} : upd f m z m = z := by unfold upd; exact if_pos rfl
theorem KR.up {T : Sd} {LW : LWt} {cm : Nat → Int32} {x z : Int32} {i j m : Nat} (h : KR T LW cm x i j) (ho : oc T j ≤ 6) (hm : 30 * i + 6 * (j + 1) ≤ m) : KR T LW (upd cm m z) x i j := fun h1 o h2 => by
  rw [upd_ne (by omega)]; exact h h1 o h2
theorem RW.up {T : Sd} {LW : LWt} {cm : Nat → Int32} {x z : Int32} {i m : Nat} (h : RW T LW cm x i) (hG : GS T) (hm : 30 * (i + 1) ≤ m) : RW T LW (upd cm m z) x i := fun h1 h2 => by
  obtain ⟨⟨g0, g0x⟩, ⟨g1, g1x⟩, ⟨g2, g2x⟩, ⟨g3, g3x⟩, g4, ⟨g5, g5x⟩, g6, gsq, goc, gwt, gsp, gfr⟩ := hG
  have h3 := h h1 h2
  exact ⟨fun j hj => (h3.1 j hj).up (goc j hj).2.2.1 (by omega), by rw [upd_ne (by omega)]; exact h3.2⟩
def pB (T : Sd) (LW : LWt) (P : Nat → Nat → Nat) (im : Bool) (mine his a : Nat) (x : Int32) : Nat := bif im then (if a = T.1 3 then 6 * P (tw T LW mine 24 x) his else sm (fun o => sx T (6 * a + o) * P (tw T LW mine (6 * a + o) x) his) (oc T a)) else (if a = T.1 3 then 6 * P mine (tw T LW his 24 x) else sm (fun o => sx T (6 * a + o) * P mine (tw T LW his (6 * a + o) x)) (oc T a))
/-- the most, or the least, of those that can be -/
def ext (im : Bool) (f : Nat → Nat) (cn : Nat → Bool) : Nat → Option Nat
  | 0 => none
  | n + 1 => match ext im f cn n with
    | none => bif cn n then some (f n) else none
    | some p => bif cn n && (bif im then decide (p < f n) else decide (f n < p)) then some (f n) else some p
def exI : Option Nat → Int32
  | none => -1
  | some p => nI p
def exN : Option Nat → Nat
  | none => 0
  | some p => p
theorem ext_none {im : Bool} {f : Nat → Nat} {cn : Nat → Bool} {n : Nat} (h : ext im f cn n = none) : ext im f cn (n + 1) = bif cn n then some (f n) else none := by rw [ext, h]
theorem ext_more {im : Bool} {f : Nat → Nat} {cn : Nat → Bool} {n p : Nat} (h : ext im f cn n = some p) : ext im f cn (n + 1) = bif cn n && (bif im then decide (p < f n) else decide (f n < p)) then some (f n) else some p := by rw [ext, h]
theorem ext_skip {im : Bool} {f : Nat → Nat} {cn : Nat → Bool} {n : Nat} (h : cn n = false) : ext im f cn (n + 1) = ext im f cn n := by
  cases e : ext im f cn n with
  | none => rw [ext_none e, h]; rfl
  | some p => rw [ext_more e, h]; rfl
theorem ext_in {im : Bool} {f : Nat → Nat} {cn : Nat → Bool} : ∀ n p, ext im f cn n = some p → ∃ i, i < n ∧ p = f i := by
  intro n
  induction n with
  | zero => intro p h; cases h
  | succ n ih =>
    intro p h
    cases e : ext im f cn n with
    | none =>
      rw [ext_none e] at h
      cases hc : cn n with
      | true => rw [hc] at h; cases h; exact ⟨n, by omega, rfl⟩
      | false => rw [hc] at h; cases h
    | some q =>
      rw [ext_more e] at h
      cases hc : (cn n && (bif im then decide (q < f n) else decide (f n < q))) with
      | true => rw [hc] at h; cases h; exact ⟨n, by omega, rfl⟩
      | false => rw [hc] at h; cases h; obtain ⟨i, h1, h2⟩ := ih _ e; exact ⟨i, by omega, h2⟩
def pO (T : Sd) (LW : LWt) (P : Nat → Nat → Nat) (im : Bool) (hv mine his : Nat) (x : Int32) : Nat := if mine = 96 then 0 else if hm T mine = true then hv else if his < 96 ∧ hm T his = true then 0 else if im = false ∧ his = 96 then 6 * P mine his else exN (ext im (fun a => pB T LW P im mine his a x) (cnB T (bif im then mine else his)) (T.1 3 + 1))
def PRl (T : Sd) (pr : Nat → Int32) (P : Nat → Nat → Nat) : Prop := ∀ a b, lone T a → lone T b → pr (97 * a + b) = nI (P a b)
theorem pB_le {T : Sd} {LW : LWt} {P : Nat → Nat → Nat} {im : Bool} {mine his a N : Nat} {x : Int32} (hG : GS T) (hP : ∀ a b, P a b ≤ N) (ha : a ≤ T.1 3) : pB T LW P im mine his a x ≤ 6 * N := by
  obtain ⟨⟨g0, g0x⟩, ⟨g1, g1x⟩, ⟨g2, g2x⟩, ⟨g3, g3x⟩, g4, ⟨g5, g5x⟩, g6, gsq, goc, gwt, gsp, gfr⟩ := hG
  unfold pB
  have key : ∀ f : Nat → Nat, (∀ o, f o ≤ N) → a < T.1 3 → sm (fun o => sx T (6 * a + o) * f o) (oc T a) ≤ 6 * N := fun f hf h => by
    have h1 := sm_le (f := fun o => sx T (6 * a + o) * f o) (g := fun o => sx T (6 * a + o)) (N := N) (oc T a) (fun i _ => Nat.mul_le_mul_left _ (hf i))
    rw [(goc a h).2.2.2.1] at h1
    exact h1
  cases im with
  | true =>
    show (if _ then _ else _) ≤ _
    split
    · exact Nat.mul_le_mul_left _ (hP _ _)
    · exact key _ (fun o => hP _ _) (by omega)
  | false =>
    show (if _ then _ else _) ≤ _
    split
    · exact Nat.mul_le_mul_left _ (hP _ _)
    · exact key _ (fun o => hP _ _) (by omega)
theorem pO_le {T : Sd} {LW : LWt} {P : Nat → Nat → Nat} {im : Bool} {hv mine his N : Nat} {x : Int32} (hG : GS T) (hP : ∀ a b, P a b ≤ N) (hh : hv ≤ 6 * N) : pO T LW P im hv mine his x ≤ 6 * N := by
  unfold pO
  split
  · exact Nat.zero_le _
  · split
    · exact hh
    · split
      · exact Nat.zero_le _
      · split
        · exact Nat.mul_le_mul_left _ (hP _ _)
        · cases e : ext im (fun a => pB T LW P im mine his a x) (cnB T (bif im then mine else his)) (T.1 3 + 1) with
          | none => exact Nat.zero_le _
          | some p =>
            obtain ⟨i, h1, h2⟩ := ext_in _ _ e
            show p ≤ _
            rw [h2]
            exact pB_le hG hP (by omega)
theorem lsg0 {l : Nat} : lsg l 0 / 4 = 96 := by
  unfold lsg
  rw [if_pos rfl]
section M1
variable {g : am_H} {k : Mk} {v pl : Nat → Int32} {br lo : Int32} {c ct pr pt cm bf bt : Nat → Int32}
variable {lv : Nat} {T : Sd} {W : Nat → Lw}
variable {S : Nat → Nat}
theorem c_X11_isLone {Q : Option Value → am_H → Prop} (hM : MR k lv T W) (hG : GS T) {i : Nat} (hi : i < 97) (q1 : lone T i → Q (some (.int (nI 1))) (mh g k v pl br lo c ct pr pt cm bf bt)) (q0 : ¬ lone T i → Q (some (.int (nI 0))) (mh g k v pl br lo c ct pr pt cm bf bt)) : AC am_P 3 64 280 [.ref 121, .int (nI i)] (mh g k v pl br lo c ct pr pt cm bf bt) Q := by
  refine AC.of (ls := [_, _]) rfl ?_
  have hM0 := hM
  have hG0 := hG
  obtain ⟨m0, m1, mr, mw, mf, mk, mli, mt, ms, msq, moc, mwy, msp, mlw⟩ := hM
  obtain ⟨⟨g0, g0x⟩, ⟨g1, g1x⟩, ⟨g2, g2x⟩, ⟨g3, g3x⟩, g4, ⟨g5, g5x⟩, g6, gsq, goc, gwt, gsp, gfr⟩ := hG
  refine aw rfl rfl ?_
  refine aw_c (v := nI 96) rfl (by decide) ?_
  refine aw_ieqn rfl (fun c3 => ?_) (fun c3 => ?_)
  · refine aw_c (v := nI 1) rfl (by decide) ?_
    refine aw rfl rfl ?_
    exact aw_iret rfl rfl (q1 (Or.inl c3))
  · refine aw rfl rfl ?_
    refine aw_c (v := nI 4) rfl (by decide) ?_
    refine aw rfl rfl ?_
    refine aw_muln rfl ?_
    refine aw_cv (d1 := 2) (L1 := 43) rfl rfl mg_121 rfl rfl (by decide) (by decide) (Nat.le_of_ble_eq_true rfl) (c_X11_isSquare (l := i) (w := 0) hM0 hG0 (by omega) (by omega) (fun z => ?_) (fun z => ?_))
    · refine aw_eq rfl (fun c => absurd c (by decide)) (fun _ => ?_)
      refine aw_c (v := nI 1) rfl (by decide) ?_
      refine aw rfl rfl ?_
      exact aw_iret rfl rfl (q1 (Or.inr z))
    · refine aw_eq rfl (fun _ => ?_) (fun c => absurd (by decide) c)
      refine aw_c (v := nI 0) rfl (by decide) ?_
      exact aw_iret rfl rfl (q0 (fun y => y.elim c3 z))
theorem c_X11_fillsCameTo {Q : Option Value → am_H → Prop} (hM : MR k lv T W) (hG : GS T) {x : Int32} (q : ∀ v pl br lo cm, (∀ i, i < 96 → RW T (lwf W) cm x i) → Q none (mh g k v pl br lo c ct pr pt cm bf bt)) : AC am_P 4 107 279 [.ref 121, .int x] (mh g k v pl br lo c ct pr pt cm bf bt) Q := by
  refine AC.of (ls := [_, _, _, _, _, _]) rfl ?_
  have hM0 := hM
  have hG0 := hG
  obtain ⟨m0, m1, mr, mw, mf, mk, mli, mt, ms, msq, moc, mwy, msp, mlw⟩ := hM
  obtain ⟨⟨g0, g0x⟩, ⟨g1, g1x⟩, ⟨g2, g2x⟩, ⟨g3, g3x⟩, g4, ⟨g5, g5x⟩, g6, gsq, goc, gwt, gsp, gfr⟩ := hG
  refine aw_c (v := nI 0) rfl (by decide) ?_
  refine aw_ist (ls' := [_, _, _, _, _, _]) rfl rfl ?_
  refine aw_loop (α := (Nat → Int32) × (Nat → Int32) × Int32 × Int32 × (Nat → Int32) × Option Value × Option Value × Option Value) (ll := fun i y => [some (.ref 121), some (.int x), some (.int (nI i)), y.2.2.2.2.2.1, y.2.2.2.2.2.2.1, y.2.2.2.2.2.2.2]) (hh := fun i y => mh g k y.1 y.2.1 y.2.2.1 y.2.2.2.1 c ct pr pt y.2.2.2.2.1 bf bt) (I := fun i y => (∀ i', i' < i → RW T (lwf W) y.2.2.2.2.1 x i')) (N := 96) (fun i y hi hI ihi => ?_) (fun y hI => ?_) 0 (v, pl, br, lo, cm, none, none, none) (Nat.zero_le _) (fun a ha => absurd ha (Nat.not_lt_zero _))
  · skip
    obtain ⟨v, pl, br, lo, cm, l3, l4, l5⟩ := y
    dsimp only at hI ⊢
    refine aw rfl rfl ?_
    refine aw_c (v := nI 96) rfl (by decide) ?_
    refine aw_igen rfl (fun c5 => by omega) (fun c5 => ?_)
    refine aw_c (v := nI 4) rfl (by decide) ?_
    refine aw rfl rfl ?_
    refine aw_muln rfl ?_
    refine aw_ist (ls' := [_, _, _, _, _, _]) rfl rfl ?_
    refine aw rfl rfl ?_
    refine aw rfl rfl ?_
    refine aw_cv (d1 := 2) (L1 := 43) rfl rfl mg_121 rfl rfl (by decide) (by decide) (Nat.le_of_ble_eq_true rfl) (c_X11_isSquare (l := i) (w := 0) hM0 hG0 (by omega) (by omega) (fun hlie => ?_) (fun hlie => ?_))
    · have hl96 := hlie.1
      refine aw_eq rfl (fun c => absurd c (by decide)) (fun _ => ?_)
      refine aw rfl rfl ?_
      refine aw rfl rfl ?_
      refine aw_cv (d1 := 1) (L1 := 22) rfl rfl mg_121 rfl rfl (by decide) (by decide) (Nat.le_of_ble_eq_true rfl) (c_so (l := i) (w := 0) hM0 hG0 hl96 (by decide) hlie.2.1 hlie.2.2.1 ?_)
      refine aw_c (v := nI 6) rfl (by decide) ?_
      refine aw_ine rfl (fun c27 => ?_) (fun c27 => ?_)
      · refine aw_c (v := nI 0) rfl (by decide) ?_
        refine aw_ist (ls' := [_, _, _, _, _, _]) rfl rfl ?_
        refine aw_loop (α := ((Nat → Int32) × (Nat → Int32) × Int32 × Int32 × (Nat → Int32)) × Option Value) (ll := fun j y => [some (.ref 121), some (.int x), some (.int (nI i)), some (.int (nI (4 * i))), some (.int (nI j)), y.2]) (hh := fun j y => mh g k y.1.1 y.1.2.1 y.1.2.2.1 y.1.2.2.2.1 c ct pr pt y.1.2.2.2.2 bf bt) (I := fun j y => (∀ i', i' < i → RW T (lwf W) y.1.2.2.2.2 x i') ∧ (∀ j', j' < j → KR T (lwf W) y.1.2.2.2.2 x i j')) (N := T.1 3) (fun j y hj hIj ihj => ?_) (fun y hIj => ?_) 0 ((v, pl, br, lo, cm), l5) (Nat.zero_le _) ⟨hI, fun a ha => absurd ha (Nat.not_lt_zero _)⟩
        · skip
          obtain ⟨⟨v, pl, br, lo, cm⟩, l5⟩ := y
          obtain ⟨hR, hK⟩ := hIj
          dsimp only at hR hK ⊢
          have hg := goc j hj
          have hoc : k.2.1 27 (4 * lv + j) = nI (oc T j) := (moc j hj).trans hg.1
          have ho6 := hg.2.2.1
          refine aw rfl rfl ?_
          refine aw rfl rfl ?_
          refine aw_getf rfl mg_121 rfl ?_
          refine aw rfl rfl ?_
          refine aw_getfE rfl mg_121 rfl (congrArg Value.int m1) ?_
          refine aw_ialdE rfl mg_134 rfl (by omega) (by decide) mk ?_
          refine aw_igen rfl (fun c47 => by omega) (fun c47 => ?_)
          refine aw_c (v := nI 0) rfl (by decide) ?_
          refine aw_ist (ls' := [_, _, _, _, _, _]) rfl rfl ?_
          refine aw_loop (α := (Nat → Int32) × (Nat → Int32) × Int32 × Int32 × (Nat → Int32)) (ll := fun o y => [some (.ref 121), some (.int x), some (.int (nI i)), some (.int (nI (4 * i))), some (.int (nI j)), some (.int (nI o))]) (hh := fun o y => mh g k y.1 y.2.1 y.2.2.1 y.2.2.2.1 c ct pr pt y.2.2.2.2 bf bt) (I := fun o y => ((∀ i', i' < i → RW T (lwf W) y.2.2.2.2 x i') ∧ (∀ j', j' < j → KR T (lwf W) y.2.2.2.2 x i j')) ∧ (mck T i j = true → ∀ o', o' < o → y.2.2.2.2 (30 * i + 6 * j + o') = nI (tw T (lwf W) i (6 * j + o') x))) (N := oc T j) (fun o y ho hIo iho => ?_) (fun y hIo => ?_) 0 (v, pl, br, lo, cm) (Nat.zero_le _) ⟨⟨hR, hK⟩, fun _ a ha => absurd ha (Nat.not_lt_zero _)⟩
          · skip
            obtain ⟨v, pl, br, lo, cm⟩ := y
            obtain ⟨⟨hR, hK⟩, hO⟩ := hIo
            dsimp only at hR hK hO ⊢
            have hls := lsg_lt hl96 (show 0 < 4 by decide)
            refine aw rfl rfl ?_
            refine aw rfl rfl ?_
            refine aw_getf rfl mg_121 rfl ?_
            refine aw_c (v := nI 4) rfl (by decide) ?_
            refine aw rfl rfl ?_
            refine aw_getfE rfl mg_121 rfl (congrArg Value.int m1) ?_
            refine aw_muln rfl ?_
            refine aw rfl rfl ?_
            refine aw_addn rfl ?_
            refine aw_ialdE rfl mg_135 rfl (by omega) (by decide) hoc ?_
            refine aw_igen rfl (fun c69 => by omega) (fun c69 => ?_)
            refine aw rfl rfl ?_
            refine aw_getf rfl mg_121 rfl ?_
            refine aw_c (v := nI 30) rfl (by decide) ?_
            refine aw rfl rfl ?_
            refine aw_muln rfl ?_
            refine aw_c (v := nI 6) rfl (by decide) ?_
            refine aw rfl rfl ?_
            refine aw_muln rfl ?_
            refine aw_addn rfl ?_
            refine aw rfl rfl ?_
            refine aw_addn rfl ?_
            refine aw rfl rfl ?_
            refine aw rfl rfl ?_
            refine aw rfl rfl ?_
            refine aw_cv (d1 := 2) (L1 := 43) rfl rfl mg_121 rfl rfl (by decide) (by decide) (Nat.le_of_ble_eq_true rfl) (c_X11_canKick (l := i) (w := 0) hM0 hG0 hlie (by decide) hj (fun hz => ?_) (fun hz => ?_))
            · refine aw_eq rfl (fun c => absurd c (by decide)) (fun _ => ?_)
              refine aw rfl rfl ?_
              refine aw rfl rfl ?_
              refine aw rfl rfl ?_
              refine aw rfl rfl ?_
              refine aw rfl rfl ?_
              refine aw_cv (d1 := 3) (L1 := 75) rfl rfl mg_121 rfl rfl (by decide) (by decide) (Nat.le_of_ble_eq_true rfl) (c_X11_brought (l := i) (w := 0) hM0 hG0 hlie (by decide) hj ho (fun z v pl br => ?_) (fun m z z2 v pl br => ?_))
              · refine aw_c (v := nI 4) rfl (by decide) ?_
                refine aw_divn rfl (by omega) (by omega) (by omega) ?_
                first | rw [lsg0] | rw [show (4 * m + 0) / 4 = m by omega]
                refine aw rfl rfl ?_
                refine aw_iastU rfl mg_164 rfl (by omega) (by decide) (by decide) mu_164 ?_
                refine aw_incn (c := 1) (ls' := [_, _, _, _, _, _]) rfl rfl (by decide) rfl ?_
                refine aw rfl rfl ?_
                refine iho (v, pl, br, nI 1, upd cm (30 * i + 6 * j + o) (nI 96)) ⟨⟨(fun a ha => (hR a ha).up hG0 (by omega)), (fun a ha => (hK a ha).up (goc a (by omega)).2.2.1 (by omega))⟩, fun z1 a ha => ?_⟩
                by_cases ea : a = o
                · subst ea; exact upd_at.trans (congrArg nI (tw_lost z).symm)
                · exact (upd_ne (by omega)).trans (hO z1 a (by omega))
              · have hm96 := z2.1
                refine aw_c (v := nI 4) rfl (by decide) ?_
                refine aw_divn rfl (by omega) (by omega) (by omega) ?_
                first | rw [lsg0] | rw [show (4 * m + 0) / 4 = m by omega]
                refine aw rfl rfl ?_
                refine aw_iastU rfl mg_164 rfl (by omega) (by decide) (by decide) mu_164 ?_
                refine aw_incn (c := 1) (ls' := [_, _, _, _, _, _]) rfl rfl (by decide) rfl ?_
                refine aw rfl rfl ?_
                refine iho (v, pl, br, nI 0, upd cm (30 * i + 6 * j + o) (nI m)) ⟨⟨(fun a ha => (hR a ha).up hG0 (by omega)), (fun a ha => (hK a ha).up (goc a (by omega)).2.2.1 (by omega))⟩, fun z1 a ha => ?_⟩
                by_cases ea : a = o
                · subst ea; exact upd_at.trans (congrArg nI (tw_on z (by omega)).symm)
                · exact (upd_ne (by omega)).trans (hO z1 a (by omega))
            · refine aw_eq rfl (fun _ => ?_) (fun c => absurd (by decide) c)
              refine aw_c (v := -1) rfl (by decide) ?_
              refine aw_iastU rfl mg_164 rfl (by omega) (by decide) (by decide) mu_164 ?_
              refine aw_incn (c := 1) (ls' := [_, _, _, _, _, _]) rfl rfl (by decide) rfl ?_
              refine aw rfl rfl ?_
              refine iho (v, pl, br, lo, upd cm (30 * i + 6 * j + o) (-1)) ⟨⟨(fun a ha => (hR a ha).up hG0 (by omega)), (fun a ha => (hK a ha).up (goc a (by omega)).2.2.1 (by omega))⟩, fun z1 a ha => absurd (mck_iff.mp z1) hz⟩
          · skip
            obtain ⟨v, pl, br, lo, cm⟩ := y
            obtain ⟨⟨hR, hK⟩, hO⟩ := hIo
            dsimp only at hR hK hO ⊢
            refine aw rfl rfl ?_
            refine aw rfl rfl ?_
            refine aw_getf rfl mg_121 rfl ?_
            refine aw_c (v := nI 4) rfl (by decide) ?_
            refine aw rfl rfl ?_
            refine aw_getfE rfl mg_121 rfl (congrArg Value.int m1) ?_
            refine aw_muln rfl ?_
            refine aw rfl rfl ?_
            refine aw_addn rfl ?_
            refine aw_ialdE rfl mg_135 rfl (by omega) (by decide) hoc ?_
            refine aw_igen rfl (fun c69 => ?_) (fun c69 => by omega)
            refine aw_incn (c := 1) (ls' := [_, _, _, _, _, _]) rfl rfl (by decide) rfl ?_
            refine aw rfl rfl ?_
            exact ihj ((v, pl, br, lo, cm), _) ⟨hR, fun a ha => by
              by_cases ea : a = j
              · subst ea; exact hO
              · exact hK a (by omega)⟩
        · skip
          obtain ⟨⟨v, pl, br, lo, cm⟩, l5⟩ := y
          obtain ⟨hR, hK⟩ := hIj
          dsimp only at hR hK ⊢
          have hls := lsg_lt hl96 (show 0 < 4 by decide)
          refine aw rfl rfl ?_
          refine aw rfl rfl ?_
          refine aw_getf rfl mg_121 rfl ?_
          refine aw rfl rfl ?_
          refine aw_getfE rfl mg_121 rfl (congrArg Value.int m1) ?_
          refine aw_ialdE rfl mg_134 rfl (by omega) (by decide) mk ?_
          refine aw_igen rfl (fun c47 => ?_) (fun c47 => by omega)
          refine aw rfl rfl ?_
          refine aw_getf rfl mg_121 rfl ?_
          refine aw_c (v := nI 30) rfl (by decide) ?_
          refine aw rfl rfl ?_
          refine aw_muln rfl ?_
          refine aw_c (v := nI 6) rfl (by decide) ?_
          refine aw rfl rfl ?_
          refine aw_getf rfl mg_121 rfl ?_
          refine aw rfl rfl ?_
          refine aw_getfE rfl mg_121 rfl (congrArg Value.int m1) ?_
          refine aw_ialdE rfl mg_134 rfl (by omega) (by decide) mk ?_
          refine aw_muln rfl ?_
          refine aw_addn rfl ?_
          refine aw rfl rfl ?_
          refine aw rfl rfl ?_
          refine aw rfl rfl ?_
          refine aw_cv (d1 := 3) (L1 := 75) rfl rfl mg_121 rfl rfl (by decide) (by decide) (Nat.le_of_ble_eq_true rfl) (c_X11_waited (l := i) (w := 0) hM0 hG0 hlie (by decide) (fun z v pl br => ?_) (fun z v pl br => ?_))
          · refine aw_c (v := nI 4) rfl (by decide) ?_
            refine aw_divn rfl (by omega) (by omega) (by omega) ?_
            first | rw [lsg0] | rw [show (4 * i + 0) / 4 = i by omega]
            refine aw_iastU rfl mg_164 rfl (by omega) (by decide) (by decide) mu_164 ?_
            refine aw_incn (c := 1) (ls' := [_, _, _, _, _, _]) rfl rfl (by decide) rfl ?_
            refine aw rfl rfl ?_
            refine ihi (v, pl, br, lo, upd cm (30 * i + 6 * T.1 3) (nI 96), _, _, _) (fun a ha => ?_)
            by_cases ea : a = i
            · subst ea; exact fun _ _ => ⟨fun b hb => (hK b hb).up (goc b hb).2.2.1 (by omega), upd_at.trans (congrArg nI (tw_lost z).symm)⟩
            · exact (hR a (by omega)).up hG0 (by omega)
          · refine aw_c (v := nI 4) rfl (by decide) ?_
            refine aw_divn rfl (by omega) (by omega) (by omega) ?_
            first | rw [lsg0] | rw [show (4 * i + 0) / 4 = i by omega]
            refine aw_iastU rfl mg_164 rfl (by omega) (by decide) (by decide) mu_164 ?_
            refine aw_incn (c := 1) (ls' := [_, _, _, _, _, _]) rfl rfl (by decide) rfl ?_
            refine aw rfl rfl ?_
            refine ihi (v, pl, br, lo, upd cm (30 * i + 6 * T.1 3) (nI i), _, _, _) (fun a ha => ?_)
            by_cases ea : a = i
            · subst ea; exact fun _ _ => ⟨fun b hb => (hK b hb).up (goc b hb).2.2.1 (by omega), upd_at.trans (congrArg nI (tw_on z (by omega)).symm)⟩
            · exact (hR a (by omega)).up hG0 (by omega)
      · refine aw rfl rfl ?_
        refine aw_incn (c := 1) (ls' := [_, _, _, _, _, _]) rfl rfl (by decide) rfl ?_
        refine aw rfl rfl ?_
        exact ihi (v, pl, br, lo, cm, _, _, _) (fun a ha => by
          by_cases ea : a = i
          · subst ea; exact fun h1 h2 => absurd (by unfold hm; exact decide_eq_true c27) h2
          · exact hI a (by omega))
    · refine aw_eq rfl (fun _ => ?_) (fun c => absurd (by decide) c)
      refine aw_incn (c := 1) (ls' := [_, _, _, _, _, _]) rfl rfl (by decide) rfl ?_
      refine aw rfl rfl ?_
      exact ihi (v, pl, br, lo, cm, _, _, _) (fun a ha => by
        by_cases ea : a = i
        · subst ea; exact fun h1 h2 => absurd h1 hlie
        · exact hI a (by omega))
  · skip
    obtain ⟨v, pl, br, lo, cm, l3, l4, l5⟩ := y
    dsimp only at hI ⊢
    refine aw rfl rfl ?_
    refine aw_c (v := nI 96) rfl (by decide) ?_
    refine aw_ige rfl (fun _ => ?_) (fun c => absurd (by decide) c)
    exact aw_vret rfl rfl (q _ _ _ _ _ hI)
theorem c_pairByM {Q : Option Value → am_H → Prop} (hM : MR k lv T W) (hG : GS T) {P : Nat → Nat → Nat} {mine his a : Nat} {x : Int32} (hP : PRl T pr P) (hX : lieOK T mine) (hh : lone T his) (hC : RW T (lwf W) cm x mine) (hm0 : ¬ hm T mine = true) (ha : a ≤ T.1 3) (hk : a = T.1 3 ∨ mck T mine a = true) (q : Q (some (.int (nI (pB T (lwf W) P true mine his a x)))) (mh g k v pl br lo c ct pr pt cm bf bt)) : AC am_P 0 0 282 [.ref 121, .int (nI mine), .int (nI his), .int (bI true), .int (nI a)] (mh g k v pl br lo c ct pr pt cm bf bt) Q := by
  refine AC.of (ls := [_, _, _, _, _, _, _, _, _]) rfl ?_
  have hM0 := hM
  have hG0 := hG
  obtain ⟨m0, m1, mr, mw, mf, mk, mli, mt, ms, msq, moc, mwy, msp, mlw⟩ := hM
  obtain ⟨⟨g0, g0x⟩, ⟨g1, g1x⟩, ⟨g2, g2x⟩, ⟨g3, g3x⟩, g4, ⟨g5, g5x⟩, g6, gsq, goc, gwt, gsp, gfr⟩ := hG
  have hX96 := hX.1
  have hl97 := lone_lt hh
  have hCX := hC hX hm0
  unfold pB at q
  dsimp only [cond_true, cond_false] at q
  by_cases e3 : a = T.1 3
  · subst e3
    rw [if_pos rfl] at q
    have htw := lone_lt (tw_lone (LW := lwf W) (x := x) hG0 hX (Or.inl rfl))
    refine aw rfl rfl ?_
    refine aw_eq rfl (fun c => absurd c (by decide)) (fun _ => ?_)
    refine aw rfl rfl ?_
    refine aw rfl rfl ?_
    refine aw_ist (ls' := [_, _, _, _, _, _, _, _, _]) rfl rfl ?_
    refine aw rfl rfl ?_
    refine aw rfl rfl ?_
    refine aw_getf rfl mg_121 rfl ?_
    refine aw rfl rfl ?_
    refine aw_getfE rfl mg_121 rfl (congrArg Value.int m1) ?_
    refine aw_ialdE rfl mg_134 rfl (by omega) (by decide) mk ?_
    refine aw_inen rfl (fun c22 => by omega) (fun c22 => ?_)
    refine aw rfl rfl ?_
    refine aw_getf rfl mg_121 rfl ?_
    refine aw_c (v := nI 30) rfl (by decide) ?_
    refine aw rfl rfl ?_
    refine aw_muln rfl ?_
    refine aw_c (v := nI 6) rfl (by decide) ?_
    refine aw rfl rfl ?_
    refine aw_muln rfl ?_
    refine aw_addn rfl ?_
    refine aw_ialdE rfl mg_164 rfl (by omega) (by decide) hCX.2 ?_
    refine aw_ist (ls' := [_, _, _, _, _, _, _, _, _]) rfl rfl ?_
    refine aw_c (v := nI 6) rfl (by decide) ?_
    refine aw rfl rfl ?_
    refine aw_eq rfl (fun c => absurd c (by decide)) (fun _ => ?_)
    refine aw rfl rfl ?_
    refine aw_getf rfl mg_121 rfl ?_
    refine aw_c (v := nI 97) rfl (by decide) ?_
    refine aw rfl rfl ?_
    refine aw_muln rfl ?_
    refine aw rfl rfl ?_
    refine aw_addn rfl ?_
    refine aw_ialdE rfl mg_162 rfl (by omega) (by decide) (hP _ _ (tw_lone hG0 hX (Or.inl rfl)) hh) ?_
    refine aw rfl rfl ?_
    refine aw_muln rfl ?_
    exact aw_iret rfl rfl q
  · rw [if_neg e3] at q
    have ha3 : a < T.1 3 := by omega
    have hg := goc a ha3
    have hoc : k.2.1 27 (4 * lv + a) = nI (oc T a) := (moc a ha3).trans hg.1
    have ho6 := hg.2.2.1
    have hKR := hCX.1 a ha3 (hk.resolve_left e3)
    refine aw rfl rfl ?_
    refine aw_eq rfl (fun c => absurd c (by decide)) (fun _ => ?_)
    refine aw rfl rfl ?_
    refine aw rfl rfl ?_
    refine aw_ist (ls' := [_, _, _, _, _, _, _, _, _]) rfl rfl ?_
    refine aw rfl rfl ?_
    refine aw rfl rfl ?_
    refine aw_getf rfl mg_121 rfl ?_
    refine aw rfl rfl ?_
    refine aw_getfE rfl mg_121 rfl (congrArg Value.int m1) ?_
    refine aw_ialdE rfl mg_134 rfl (by omega) (by decide) mk ?_
    refine aw_inen rfl (fun c22 => ?_) (fun c22 => by omega)
    refine aw_c (v := nI 0) rfl (by decide) ?_
    refine aw_ist (ls' := [_, _, _, _, _, _, _, _, _]) rfl rfl ?_
    refine aw_c (v := nI 0) rfl (by decide) ?_
    refine aw_ist (ls' := [_, _, _, _, _, _, _, _, _]) rfl rfl ?_
    refine aw_loop (α := Option Value) (ll := fun i y => [some (.ref 121), some (.int (nI mine)), some (.int (nI his)), some (.int (bI true)), some (.int (nI a)), some (.int (nI mine)), some (.int (nI (sm (fun o => sx T (6 * a + o) * P (tw T (lwf W) mine (6 * a + o) x) his) i))), some (.int (nI i)), y]) (hh := fun i y => (mh g k v pl br lo c ct pr pt cm bf bt)) (I := fun i y => True) (N := oc T a) (fun i y hi hI ih => ?_) (fun y hI => ?_) 0 none (Nat.zero_le _) trivial
    · skip
      have hgo := hg.2.2.2.2 i hi
      have hsx : k.2.1 28 (6 * (4 * lv + a) + i) = nI (sx T (6 * a + i)) := (mwy a i ha3 hi).1.trans hgo.1
      have htl := tw_lone (LW := lwf W) (x := x) hG0 hX (Or.inr ⟨a, i, ha3, hi, rfl⟩)
      have htw := lone_lt htl
      refine aw rfl rfl ?_
      refine aw rfl rfl ?_
      refine aw_getf rfl mg_121 rfl ?_
      refine aw_c (v := nI 4) rfl (by decide) ?_
      refine aw rfl rfl ?_
      refine aw_getfE rfl mg_121 rfl (congrArg Value.int m1) ?_
      refine aw_muln rfl ?_
      refine aw rfl rfl ?_
      refine aw_addn rfl ?_
      refine aw_ialdE rfl mg_135 rfl (by omega) (by decide) hoc ?_
      refine aw_igen rfl (fun c100 => by omega) (fun c100 => ?_)
      refine aw rfl rfl ?_
      refine aw_getf rfl mg_121 rfl ?_
      refine aw_c (v := nI 30) rfl (by decide) ?_
      refine aw rfl rfl ?_
      refine aw_muln rfl ?_
      refine aw_c (v := nI 6) rfl (by decide) ?_
      refine aw rfl rfl ?_
      refine aw_muln rfl ?_
      refine aw_addn rfl ?_
      refine aw rfl rfl ?_
      refine aw_addn rfl ?_
      refine aw_ialdE rfl mg_164 rfl (by omega) (by decide) (hKR i hi) ?_
      refine aw_ist (ls' := [_, _, _, _, _, _, _, _, _]) rfl rfl ?_
      refine aw rfl rfl ?_
      refine aw rfl rfl ?_
      refine aw_getf rfl mg_121 rfl ?_
      refine aw_c (v := nI 6) rfl (by decide) ?_
      refine aw_c (v := nI 4) rfl (by decide) ?_
      refine aw rfl rfl ?_
      refine aw_getfE rfl mg_121 rfl (congrArg Value.int m1) ?_
      refine aw_muln rfl ?_
      refine aw rfl rfl ?_
      refine aw_addn rfl ?_
      refine aw_muln rfl ?_
      refine aw rfl rfl ?_
      refine aw_addn rfl ?_
      refine aw_ialdE rfl mg_136 rfl (by omega) (by decide) hsx ?_
      refine aw rfl rfl ?_
      refine aw_eq rfl (fun c => absurd c (by decide)) (fun _ => ?_)
      refine aw rfl rfl ?_
      refine aw_getf rfl mg_121 rfl ?_
      refine aw_c (v := nI 97) rfl (by decide) ?_
      refine aw rfl rfl ?_
      refine aw_muln rfl ?_
      refine aw rfl rfl ?_
      refine aw_addn rfl ?_
      refine aw_ialdE rfl mg_162 rfl (by omega) (by decide) (hP _ _ htl hh) ?_
      refine aw rfl rfl ?_
      refine aw_muln rfl ?_
      refine aw_addn rfl ?_
      refine aw_ist (ls' := [_, _, _, _, _, _, _, _, _]) rfl rfl ?_
      refine aw_incn (c := 1) (ls' := [_, _, _, _, _, _, _, _, _]) rfl rfl (by decide) rfl ?_
      refine aw rfl rfl ?_
      exact ih _ trivial
    · skip
      refine aw rfl rfl ?_
      refine aw rfl rfl ?_
      refine aw_getf rfl mg_121 rfl ?_
      refine aw_c (v := nI 4) rfl (by decide) ?_
      refine aw rfl rfl ?_
      refine aw_getfE rfl mg_121 rfl (congrArg Value.int m1) ?_
      refine aw_muln rfl ?_
      refine aw rfl rfl ?_
      refine aw_addn rfl ?_
      refine aw_ialdE rfl mg_135 rfl (by omega) (by decide) hoc ?_
      refine aw_igen rfl (fun c100 => ?_) (fun c100 => by omega)
      refine aw rfl rfl ?_
      exact aw_iret rfl rfl q
theorem c_pairByH {Q : Option Value → am_H → Prop} (hM : MR k lv T W) (hG : GS T) {P : Nat → Nat → Nat} {mine his a : Nat} {x : Int32} (hP : PRl T pr P) (hX : lieOK T his) (hh : lone T mine) (hC : RW T (lwf W) cm x his) (hm0 : ¬ hm T his = true) (ha : a ≤ T.1 3) (hk : a = T.1 3 ∨ mck T his a = true) (q : Q (some (.int (nI (pB T (lwf W) P false mine his a x)))) (mh g k v pl br lo c ct pr pt cm bf bt)) : AC am_P 0 0 282 [.ref 121, .int (nI mine), .int (nI his), .int (bI false), .int (nI a)] (mh g k v pl br lo c ct pr pt cm bf bt) Q := by
  refine AC.of (ls := [_, _, _, _, _, _, _, _, _]) rfl ?_
  have hM0 := hM
  have hG0 := hG
  obtain ⟨m0, m1, mr, mw, mf, mk, mli, mt, ms, msq, moc, mwy, msp, mlw⟩ := hM
  obtain ⟨⟨g0, g0x⟩, ⟨g1, g1x⟩, ⟨g2, g2x⟩, ⟨g3, g3x⟩, g4, ⟨g5, g5x⟩, g6, gsq, goc, gwt, gsp, gfr⟩ := hG
  have hX96 := hX.1
  have hl97 := lone_lt hh
  have hCX := hC hX hm0
  unfold pB at q
  dsimp only [cond_true, cond_false] at q
  by_cases e3 : a = T.1 3
  · subst e3
    rw [if_pos rfl] at q
    have htw := lone_lt (tw_lone (LW := lwf W) (x := x) hG0 hX (Or.inl rfl))
    refine aw rfl rfl ?_
    refine aw_eq rfl (fun _ => ?_) (fun c => absurd (by decide) c)
    refine aw rfl rfl ?_
    refine aw_ist (ls' := [_, _, _, _, _, _, _, _, _]) rfl rfl ?_
    refine aw rfl rfl ?_
    refine aw rfl rfl ?_
    refine aw_getf rfl mg_121 rfl ?_
    refine aw rfl rfl ?_
    refine aw_getfE rfl mg_121 rfl (congrArg Value.int m1) ?_
    refine aw_ialdE rfl mg_134 rfl (by omega) (by decide) mk ?_
    refine aw_inen rfl (fun c22 => by omega) (fun c22 => ?_)
    refine aw rfl rfl ?_
    refine aw_getf rfl mg_121 rfl ?_
    refine aw_c (v := nI 30) rfl (by decide) ?_
    refine aw rfl rfl ?_
    refine aw_muln rfl ?_
    refine aw_c (v := nI 6) rfl (by decide) ?_
    refine aw rfl rfl ?_
    refine aw_muln rfl ?_
    refine aw_addn rfl ?_
    refine aw_ialdE rfl mg_164 rfl (by omega) (by decide) hCX.2 ?_
    refine aw_ist (ls' := [_, _, _, _, _, _, _, _, _]) rfl rfl ?_
    refine aw_c (v := nI 6) rfl (by decide) ?_
    refine aw rfl rfl ?_
    refine aw_eq rfl (fun _ => ?_) (fun c => absurd (by decide) c)
    refine aw rfl rfl ?_
    refine aw_getf rfl mg_121 rfl ?_
    refine aw_c (v := nI 97) rfl (by decide) ?_
    refine aw rfl rfl ?_
    refine aw_muln rfl ?_
    refine aw rfl rfl ?_
    refine aw_addn rfl ?_
    refine aw_ialdE rfl mg_162 rfl (by omega) (by decide) (hP _ _ hh (tw_lone hG0 hX (Or.inl rfl))) ?_
    refine aw_muln rfl ?_
    exact aw_iret rfl rfl q
  · rw [if_neg e3] at q
    have ha3 : a < T.1 3 := by omega
    have hg := goc a ha3
    have hoc : k.2.1 27 (4 * lv + a) = nI (oc T a) := (moc a ha3).trans hg.1
    have ho6 := hg.2.2.1
    have hKR := hCX.1 a ha3 (hk.resolve_left e3)
    refine aw rfl rfl ?_
    refine aw_eq rfl (fun _ => ?_) (fun c => absurd (by decide) c)
    refine aw rfl rfl ?_
    refine aw_ist (ls' := [_, _, _, _, _, _, _, _, _]) rfl rfl ?_
    refine aw rfl rfl ?_
    refine aw rfl rfl ?_
    refine aw_getf rfl mg_121 rfl ?_
    refine aw rfl rfl ?_
    refine aw_getfE rfl mg_121 rfl (congrArg Value.int m1) ?_
    refine aw_ialdE rfl mg_134 rfl (by omega) (by decide) mk ?_
    refine aw_inen rfl (fun c22 => ?_) (fun c22 => by omega)
    refine aw_c (v := nI 0) rfl (by decide) ?_
    refine aw_ist (ls' := [_, _, _, _, _, _, _, _, _]) rfl rfl ?_
    refine aw_c (v := nI 0) rfl (by decide) ?_
    refine aw_ist (ls' := [_, _, _, _, _, _, _, _, _]) rfl rfl ?_
    refine aw_loop (α := Option Value) (ll := fun i y => [some (.ref 121), some (.int (nI mine)), some (.int (nI his)), some (.int (bI false)), some (.int (nI a)), some (.int (nI his)), some (.int (nI (sm (fun o => sx T (6 * a + o) * P mine (tw T (lwf W) his (6 * a + o) x)) i))), some (.int (nI i)), y]) (hh := fun i y => (mh g k v pl br lo c ct pr pt cm bf bt)) (I := fun i y => True) (N := oc T a) (fun i y hi hI ih => ?_) (fun y hI => ?_) 0 none (Nat.zero_le _) trivial
    · skip
      have hgo := hg.2.2.2.2 i hi
      have hsx : k.2.1 28 (6 * (4 * lv + a) + i) = nI (sx T (6 * a + i)) := (mwy a i ha3 hi).1.trans hgo.1
      have htl := tw_lone (LW := lwf W) (x := x) hG0 hX (Or.inr ⟨a, i, ha3, hi, rfl⟩)
      have htw := lone_lt htl
      refine aw rfl rfl ?_
      refine aw rfl rfl ?_
      refine aw_getf rfl mg_121 rfl ?_
      refine aw_c (v := nI 4) rfl (by decide) ?_
      refine aw rfl rfl ?_
      refine aw_getfE rfl mg_121 rfl (congrArg Value.int m1) ?_
      refine aw_muln rfl ?_
      refine aw rfl rfl ?_
      refine aw_addn rfl ?_
      refine aw_ialdE rfl mg_135 rfl (by omega) (by decide) hoc ?_
      refine aw_igen rfl (fun c100 => by omega) (fun c100 => ?_)
      refine aw rfl rfl ?_
      refine aw_getf rfl mg_121 rfl ?_
      refine aw_c (v := nI 30) rfl (by decide) ?_
      refine aw rfl rfl ?_
      refine aw_muln rfl ?_
      refine aw_c (v := nI 6) rfl (by decide) ?_
      refine aw rfl rfl ?_
      refine aw_muln rfl ?_
      refine aw_addn rfl ?_
      refine aw rfl rfl ?_
      refine aw_addn rfl ?_
      refine aw_ialdE rfl mg_164 rfl (by omega) (by decide) (hKR i hi) ?_
      refine aw_ist (ls' := [_, _, _, _, _, _, _, _, _]) rfl rfl ?_
      refine aw rfl rfl ?_
      refine aw rfl rfl ?_
      refine aw_getf rfl mg_121 rfl ?_
      refine aw_c (v := nI 6) rfl (by decide) ?_
      refine aw_c (v := nI 4) rfl (by decide) ?_
      refine aw rfl rfl ?_
      refine aw_getfE rfl mg_121 rfl (congrArg Value.int m1) ?_
      refine aw_muln rfl ?_
      refine aw rfl rfl ?_
      refine aw_addn rfl ?_
      refine aw_muln rfl ?_
      refine aw rfl rfl ?_
      refine aw_addn rfl ?_
      refine aw_ialdE rfl mg_136 rfl (by omega) (by decide) hsx ?_
      refine aw rfl rfl ?_
      refine aw_eq rfl (fun _ => ?_) (fun c => absurd (by decide) c)
      refine aw rfl rfl ?_
      refine aw_getf rfl mg_121 rfl ?_
      refine aw_c (v := nI 97) rfl (by decide) ?_
      refine aw rfl rfl ?_
      refine aw_muln rfl ?_
      refine aw rfl rfl ?_
      refine aw_addn rfl ?_
      refine aw_ialdE rfl mg_162 rfl (by omega) (by decide) (hP _ _ hh htl) ?_
      refine aw_muln rfl ?_
      refine aw_addn rfl ?_
      refine aw_ist (ls' := [_, _, _, _, _, _, _, _, _]) rfl rfl ?_
      refine aw_incn (c := 1) (ls' := [_, _, _, _, _, _, _, _, _]) rfl rfl (by decide) rfl ?_
      refine aw rfl rfl ?_
      exact ih _ trivial
    · skip
      refine aw rfl rfl ?_
      refine aw rfl rfl ?_
      refine aw_getf rfl mg_121 rfl ?_
      refine aw_c (v := nI 4) rfl (by decide) ?_
      refine aw rfl rfl ?_
      refine aw_getfE rfl mg_121 rfl (congrArg Value.int m1) ?_
      refine aw_muln rfl ?_
      refine aw rfl rfl ?_
      refine aw_addn rfl ?_
      refine aw_ialdE rfl mg_135 rfl (by omega) (by decide) hoc ?_
      refine aw_igen rfl (fun c100 => ?_) (fun c100 => by omega)
      refine aw rfl rfl ?_
      exact aw_iret rfl rfl q
theorem c_pairOfM {Q : Option Value → am_H → Prop} (hM : MR k lv T W) (hG : GS T) {P : Nat → Nat → Nat} {mine his hv : Nat} {x : Int32} (hP : PRl T pr P) (hB : ∀ a b, P a b < 100000000) (hm1 : lone T mine) (hh1 : lone T his) (hC : ∀ i, i < 96 → RW T (lwf W) cm x i) (q : Q (some (.int (nI (pO T (lwf W) P true hv mine his x)))) (mh g k v pl br lo c ct pr pt cm bf bt)) : AC am_P 3 65 281 [.ref 121, .int (nI mine), .int (nI his), .int (bI true), .int (nI hv)] (mh g k v pl br lo c ct pr pt cm bf bt) Q := by
  refine AC.of (ls := [_, _, _, _, _, _, _, _]) rfl ?_
  have hM0 := hM
  have hG0 := hG
  obtain ⟨m0, m1, mr, mw, mf, mk, mli, mt, ms, msq, moc, mwy, msp, mlw⟩ := hM
  obtain ⟨⟨g0, g0x⟩, ⟨g1, g1x⟩, ⟨g2, g2x⟩, ⟨g3, g3x⟩, g4, ⟨g5, g5x⟩, g6, gsq, goc, gwt, gsp, gfr⟩ := hG
  have hm97 := lone_lt hm1
  have hh97 := lone_lt hh1
  unfold pO at q
  refine aw rfl rfl ?_
  refine aw_c (v := nI 96) rfl (by decide) ?_
  refine aw_inen rfl (fun c3 => ?_) (fun c3 => ?_)
  · have hml : lieOK T mine := hm1.resolve_left c3
    rw [if_neg c3] at q
    refine aw rfl rfl ?_
    refine aw_c (v := nI 4) rfl (by decide) ?_
    refine aw rfl rfl ?_
    refine aw_muln rfl ?_
    refine aw_cv (d1 := 1) (L1 := 22) rfl rfl mg_121 rfl rfl (by decide) (by decide) (Nat.le_of_ble_eq_true rfl) (c_so (l := mine) (w := 0) hM0 hG0 hml.1 (by decide) hml.2.1 hml.2.2.1 ?_)
    refine aw_c (v := nI 6) rfl (by decide) ?_
    refine aw_ine rfl (fun c17 => ?_) (fun c17 => ?_)
    · rw [if_neg (show ¬ hm T mine = true from fun y => c17 (of_decide_eq_true y))] at q
      refine aw rfl rfl ?_
      refine aw_c (v := nI 96) rfl (by decide) ?_
      refine aw_igen rfl (fun c26 => ?_) (fun c26 => ?_)
      · refine aw rfl rfl ?_
        refine aw_ne rfl (fun _ => ?_) (fun c => absurd c (by decide))
        refine aw_c (v := -1) rfl (by decide) ?_
        refine aw_ist (ls' := [_, _, _, _, _, _, _, _]) rfl rfl ?_
        refine aw_c (v := nI 0) rfl (by decide) ?_
        refine aw_ist (ls' := [_, _, _, _, _, _, _, _]) rfl rfl ?_
        rw [if_neg (show ¬ (his < 96 ∧ hm T his = true) from fun y => absurd y.1 (by omega)), if_neg (fun y => nomatch y.1)] at q
        have hX6 : ¬ hm T mine = true := fun y => c17 (of_decide_eq_true y)
        have hXl : lieOK T mine := hml
        refine aw_loop (α := Option Value) (ll := fun i y => [some (.ref 121), some (.int (nI mine)), some (.int (nI his)), some (.int (bI true)), some (.int (nI hv)), some (.int (exI (ext true (fun a => pB T (lwf W) P true mine his a x) (cnB T mine) i))), some (.int (nI i)), y]) (hh := fun i y => (mh g k v pl br lo c ct pr pt cm bf bt)) (I := fun i y => True) (N := T.1 3 + 1) (fun i y hi hI ih => ?_) (fun y hI => ?_) 0 none (Nat.zero_le _) trivial
        · skip
          have hpb := pB_le (LW := lwf W) (P := P) (im := true) (mine := mine) (his := his) (a := i) (x := x) hG0 (fun a b => Nat.le_of_lt (hB a b)) (by omega)
          cases eb : (ext true (fun a => pB T (lwf W) P true mine his a x) (cnB T mine) i) with
          | none =>
            show AW am_P _ _ _ _ [_, _, _, _, _, some (.int (-1)), _, _] _ _ _
            by_cases e3 : i = T.1 3
            · skip
              have hcn : cnB T mine i = true := by unfold cnB; rw [decide_eq_true e3]; rfl
              have hki : i = T.1 3 ∨ mck T mine i = true := Or.inl e3
              refine aw rfl rfl ?_
              refine aw rfl rfl ?_
              refine aw_getf rfl mg_121 rfl ?_
              refine aw rfl rfl ?_
              refine aw_getfE rfl mg_121 rfl (congrArg Value.int m1) ?_
              refine aw_ialdE rfl mg_134 rfl (by omega) (by decide) mk ?_
              refine aw_igtn rfl (fun c85 => by omega) (fun c85 => ?_)
              refine aw rfl rfl ?_
              refine aw rfl rfl ?_
              refine aw_getf rfl mg_121 rfl ?_
              refine aw rfl rfl ?_
              refine aw_getfE rfl mg_121 rfl (congrArg Value.int m1) ?_
              refine aw_ialdE rfl mg_134 rfl (by omega) (by decide) mk ?_
              refine aw_igen rfl (fun c99 => ?_) (fun c99 => by omega)
              refine aw rfl rfl ?_
              refine aw rfl rfl ?_
              refine aw rfl rfl ?_
              refine aw rfl rfl ?_
              refine aw rfl rfl ?_
              refine aw_cv (d1 := 0) (L1 := 0) rfl rfl mg_121 rfl rfl (by decide) (by decide) (Nat.le_of_ble_eq_true rfl) (c_pairByM (P := P) hM0 hG0 hP hXl hh1 (hC _ hXl.1) hX6 (by omega) hki ?_)
              refine aw_ist (ls' := [_, _, _, _, _, _, _, _]) rfl rfl ?_
              refine aw rfl rfl ?_
              refine aw_lt rfl (fun _ => ?_) (fun c => absurd (by decide) c)
              refine aw rfl rfl ?_
              refine aw_ist (ls' := [_, _, _, _, _, _, _, _]) rfl rfl ?_
              refine aw_incn (c := 1) (ls' := [_, _, _, _, _, _, _, _]) rfl rfl (by decide) rfl ?_
              refine aw rfl rfl ?_
              have e5 : (ext true (fun a => pB T (lwf W) P true mine his a x) (cnB T mine) (i + 1)) = some (pB T (lwf W) P true mine his i x) := by rw [ext_none eb, hcn]; rfl
              have ih := fun y => ih y trivial
              rw [e5] at ih
              exact ih _
            · skip
              refine aw rfl rfl ?_
              refine aw rfl rfl ?_
              refine aw_getf rfl mg_121 rfl ?_
              refine aw rfl rfl ?_
              refine aw_getfE rfl mg_121 rfl (congrArg Value.int m1) ?_
              refine aw_ialdE rfl mg_134 rfl (by omega) (by decide) mk ?_
              refine aw_igtn rfl (fun c85 => by omega) (fun c85 => ?_)
              refine aw rfl rfl ?_
              refine aw rfl rfl ?_
              refine aw_getf rfl mg_121 rfl ?_
              refine aw rfl rfl ?_
              refine aw_getfE rfl mg_121 rfl (congrArg Value.int m1) ?_
              refine aw_ialdE rfl mg_134 rfl (by omega) (by decide) mk ?_
              refine aw_igen rfl (fun c99 => by omega) (fun c99 => ?_)
              refine aw rfl rfl ?_
              refine aw_c (v := nI 4) rfl (by decide) ?_
              refine aw rfl rfl ?_
              refine aw_eq rfl (fun c => absurd c (by decide)) (fun _ => ?_)
              refine aw rfl rfl ?_
              refine aw rfl rfl ?_
              refine aw_muln rfl ?_
              refine aw rfl rfl ?_
              refine aw_cv (d1 := 2) (L1 := 43) rfl rfl mg_121 rfl rfl (by decide) (by decide) (Nat.le_of_ble_eq_true rfl) (c_X11_canKick (l := mine) (w := 0) hM0 hG0 hXl (by decide) (by omega) (fun hz => ?_) (fun hz => ?_))
              · have hcn : cnB T mine i = true := by unfold cnB; rw [mck_iff.mpr hz, Bool.or_true]
                have hki : i = T.1 3 ∨ mck T mine i = true := Or.inr (mck_iff.mpr hz)
                refine aw_ne rfl (fun _ => ?_) (fun c => absurd c (by decide))
                refine aw rfl rfl ?_
                refine aw rfl rfl ?_
                refine aw rfl rfl ?_
                refine aw rfl rfl ?_
                refine aw rfl rfl ?_
                refine aw_cv (d1 := 0) (L1 := 0) rfl rfl mg_121 rfl rfl (by decide) (by decide) (Nat.le_of_ble_eq_true rfl) (c_pairByM (P := P) hM0 hG0 hP hXl hh1 (hC _ hXl.1) hX6 (by omega) hki ?_)
                refine aw_ist (ls' := [_, _, _, _, _, _, _, _]) rfl rfl ?_
                refine aw rfl rfl ?_
                refine aw_lt rfl (fun _ => ?_) (fun c => absurd (by decide) c)
                refine aw rfl rfl ?_
                refine aw_ist (ls' := [_, _, _, _, _, _, _, _]) rfl rfl ?_
                refine aw_incn (c := 1) (ls' := [_, _, _, _, _, _, _, _]) rfl rfl (by decide) rfl ?_
                refine aw rfl rfl ?_
                have e5 : (ext true (fun a => pB T (lwf W) P true mine his a x) (cnB T mine) (i + 1)) = some (pB T (lwf W) P true mine his i x) := by rw [ext_none eb, hcn]; rfl
                have ih := fun y => ih y trivial
                rw [e5] at ih
                exact ih _
              · refine aw_ne rfl (fun c => absurd (by decide) c) (fun _ => ?_)
                refine aw rfl rfl ?_
                refine aw_incn (c := 1) (ls' := [_, _, _, _, _, _, _, _]) rfl rfl (by decide) rfl ?_
                refine aw rfl rfl ?_
                have e5 : (ext true (fun a => pB T (lwf W) P true mine his a x) (cnB T mine) (i + 1)) = none := by rw [ext_skip (by unfold cnB; rw [decide_eq_false (by omega), Bool.eq_false_iff.mpr (fun y => hz (mck_iff.mp y))]; rfl), eb]
                have ih := fun y => ih y trivial
                rw [e5] at ih
                exact ih _
          | some p =>
            show AW am_P _ _ _ _ [_, _, _, _, _, some (.int (nI p)), _, _] _ _ _
            obtain ⟨i9, h9, h10⟩ := ext_in _ _ eb
            have hp9 := pB_le (LW := lwf W) (P := P) (im := true) (mine := mine) (his := his) (a := i9) (x := x) hG0 (fun a b => Nat.le_of_lt (hB a b)) (by omega)
            by_cases e3 : i = T.1 3
            · skip
              have hcn : cnB T mine i = true := by unfold cnB; rw [decide_eq_true e3]; rfl
              have hki : i = T.1 3 ∨ mck T mine i = true := Or.inl e3
              refine aw rfl rfl ?_
              refine aw rfl rfl ?_
              refine aw_getf rfl mg_121 rfl ?_
              refine aw rfl rfl ?_
              refine aw_getfE rfl mg_121 rfl (congrArg Value.int m1) ?_
              refine aw_ialdE rfl mg_134 rfl (by omega) (by decide) mk ?_
              refine aw_igtn rfl (fun c85 => by omega) (fun c85 => ?_)
              refine aw rfl rfl ?_
              refine aw rfl rfl ?_
              refine aw_getf rfl mg_121 rfl ?_
              refine aw rfl rfl ?_
              refine aw_getfE rfl mg_121 rfl (congrArg Value.int m1) ?_
              refine aw_ialdE rfl mg_134 rfl (by omega) (by decide) mk ?_
              refine aw_igen rfl (fun c99 => ?_) (fun c99 => by omega)
              refine aw rfl rfl ?_
              refine aw rfl rfl ?_
              refine aw rfl rfl ?_
              refine aw rfl rfl ?_
              refine aw rfl rfl ?_
              refine aw_cv (d1 := 0) (L1 := 0) rfl rfl mg_121 rfl rfl (by decide) (by decide) (Nat.le_of_ble_eq_true rfl) (c_pairByM (P := P) hM0 hG0 hP hXl hh1 (hC _ hXl.1) hX6 (by omega) hki ?_)
              refine aw_ist (ls' := [_, _, _, _, _, _, _, _]) rfl rfl ?_
              refine aw rfl rfl ?_
              refine aw_ltn rfl ?_
              refine aw rfl rfl ?_
              refine aw_eq rfl (fun c => absurd c (by decide)) (fun _ => ?_)
              refine aw rfl rfl ?_
              refine aw rfl rfl ?_
              refine aw_ilen rfl (fun c149 => ?_) (fun c149 => ?_)
              · refine aw_incn (c := 1) (ls' := [_, _, _, _, _, _, _, _]) rfl rfl (by decide) rfl ?_
                refine aw rfl rfl ?_
                have e5 : (ext true (fun a => pB T (lwf W) P true mine his a x) (cnB T mine) (i + 1)) = some p := by rw [ext_more eb, hcn]; show (bif true && decide _ then _ else _) = _; rw [decide_eq_false (by omega)]; rfl
                have ih := fun y => ih y trivial
                rw [e5] at ih
                exact ih _
              · refine aw rfl rfl ?_
                refine aw rfl rfl ?_
                refine aw_ist (ls' := [_, _, _, _, _, _, _, _]) rfl rfl ?_
                refine aw_incn (c := 1) (ls' := [_, _, _, _, _, _, _, _]) rfl rfl (by decide) rfl ?_
                refine aw rfl rfl ?_
                have e5 : (ext true (fun a => pB T (lwf W) P true mine his a x) (cnB T mine) (i + 1)) = some (pB T (lwf W) P true mine his i x) := by rw [ext_more eb, hcn]; show (bif true && decide _ then _ else _) = _; rw [decide_eq_true (by omega)]; rfl
                have ih := fun y => ih y trivial
                rw [e5] at ih
                exact ih _
            · skip
              refine aw rfl rfl ?_
              refine aw rfl rfl ?_
              refine aw_getf rfl mg_121 rfl ?_
              refine aw rfl rfl ?_
              refine aw_getfE rfl mg_121 rfl (congrArg Value.int m1) ?_
              refine aw_ialdE rfl mg_134 rfl (by omega) (by decide) mk ?_
              refine aw_igtn rfl (fun c85 => by omega) (fun c85 => ?_)
              refine aw rfl rfl ?_
              refine aw rfl rfl ?_
              refine aw_getf rfl mg_121 rfl ?_
              refine aw rfl rfl ?_
              refine aw_getfE rfl mg_121 rfl (congrArg Value.int m1) ?_
              refine aw_ialdE rfl mg_134 rfl (by omega) (by decide) mk ?_
              refine aw_igen rfl (fun c99 => by omega) (fun c99 => ?_)
              refine aw rfl rfl ?_
              refine aw_c (v := nI 4) rfl (by decide) ?_
              refine aw rfl rfl ?_
              refine aw_eq rfl (fun c => absurd c (by decide)) (fun _ => ?_)
              refine aw rfl rfl ?_
              refine aw rfl rfl ?_
              refine aw_muln rfl ?_
              refine aw rfl rfl ?_
              refine aw_cv (d1 := 2) (L1 := 43) rfl rfl mg_121 rfl rfl (by decide) (by decide) (Nat.le_of_ble_eq_true rfl) (c_X11_canKick (l := mine) (w := 0) hM0 hG0 hXl (by decide) (by omega) (fun hz => ?_) (fun hz => ?_))
              · have hcn : cnB T mine i = true := by unfold cnB; rw [mck_iff.mpr hz, Bool.or_true]
                have hki : i = T.1 3 ∨ mck T mine i = true := Or.inr (mck_iff.mpr hz)
                refine aw_ne rfl (fun _ => ?_) (fun c => absurd c (by decide))
                refine aw rfl rfl ?_
                refine aw rfl rfl ?_
                refine aw rfl rfl ?_
                refine aw rfl rfl ?_
                refine aw rfl rfl ?_
                refine aw_cv (d1 := 0) (L1 := 0) rfl rfl mg_121 rfl rfl (by decide) (by decide) (Nat.le_of_ble_eq_true rfl) (c_pairByM (P := P) hM0 hG0 hP hXl hh1 (hC _ hXl.1) hX6 (by omega) hki ?_)
                refine aw_ist (ls' := [_, _, _, _, _, _, _, _]) rfl rfl ?_
                refine aw rfl rfl ?_
                refine aw_ltn rfl ?_
                refine aw rfl rfl ?_
                refine aw_eq rfl (fun c => absurd c (by decide)) (fun _ => ?_)
                refine aw rfl rfl ?_
                refine aw rfl rfl ?_
                refine aw_ilen rfl (fun c149 => ?_) (fun c149 => ?_)
                · refine aw_incn (c := 1) (ls' := [_, _, _, _, _, _, _, _]) rfl rfl (by decide) rfl ?_
                  refine aw rfl rfl ?_
                  have e5 : (ext true (fun a => pB T (lwf W) P true mine his a x) (cnB T mine) (i + 1)) = some p := by rw [ext_more eb, hcn]; show (bif true && decide _ then _ else _) = _; rw [decide_eq_false (by omega)]; rfl
                  have ih := fun y => ih y trivial
                  rw [e5] at ih
                  exact ih _
                · refine aw rfl rfl ?_
                  refine aw rfl rfl ?_
                  refine aw_ist (ls' := [_, _, _, _, _, _, _, _]) rfl rfl ?_
                  refine aw_incn (c := 1) (ls' := [_, _, _, _, _, _, _, _]) rfl rfl (by decide) rfl ?_
                  refine aw rfl rfl ?_
                  have e5 : (ext true (fun a => pB T (lwf W) P true mine his a x) (cnB T mine) (i + 1)) = some (pB T (lwf W) P true mine his i x) := by rw [ext_more eb, hcn]; show (bif true && decide _ then _ else _) = _; rw [decide_eq_true (by omega)]; rfl
                  have ih := fun y => ih y trivial
                  rw [e5] at ih
                  exact ih _
              · refine aw_ne rfl (fun c => absurd (by decide) c) (fun _ => ?_)
                refine aw rfl rfl ?_
                refine aw_incn (c := 1) (ls' := [_, _, _, _, _, _, _, _]) rfl rfl (by decide) rfl ?_
                refine aw rfl rfl ?_
                have e5 : (ext true (fun a => pB T (lwf W) P true mine his a x) (cnB T mine) (i + 1)) = some p := by rw [ext_skip (by unfold cnB; rw [decide_eq_false (by omega), Bool.eq_false_iff.mpr (fun y => hz (mck_iff.mp y))]; rfl), eb]
                have ih := fun y => ih y trivial
                rw [e5] at ih
                exact ih _
        · skip
          have e8 : ∃ p, (ext true (fun a => pB T (lwf W) P true mine his a x) (cnB T mine) (T.1 3 + 1)) = some p := by
            have hcn : cnB T mine (T.1 3) = true := by unfold cnB; rw [decide_eq_true rfl]; rfl
            cases eb : (ext true (fun a => pB T (lwf W) P true mine his a x) (cnB T mine) (T.1 3)) with
            | none => exact ⟨_, by rw [ext_none eb, hcn]; rfl⟩
            | some p => rw [ext_more eb]; cases (cnB T mine (T.1 3) && _) <;> exact ⟨_, rfl⟩
          obtain ⟨p, e8⟩ := e8
          dsimp only [cond_true, cond_false] at q
          rw [e8] at q ⊢
          show AW am_P _ _ _ _ [_, _, _, _, _, some (.int (nI p)), _, _] _ _ _
          refine aw rfl rfl ?_
          refine aw rfl rfl ?_
          refine aw_getf rfl mg_121 rfl ?_
          refine aw rfl rfl ?_
          refine aw_getfE rfl mg_121 rfl (congrArg Value.int m1) ?_
          refine aw_ialdE rfl mg_134 rfl (by omega) (by decide) mk ?_
          refine aw_igtn rfl (fun c85 => ?_) (fun c85 => by omega)
          refine aw rfl rfl ?_
          exact aw_iret rfl rfl q
      · have hhl : lieOK T his := hh1.resolve_left (by omega)
        refine aw rfl rfl ?_
        refine aw_c (v := nI 4) rfl (by decide) ?_
        refine aw rfl rfl ?_
        refine aw_muln rfl ?_
        refine aw_cv (d1 := 1) (L1 := 22) rfl rfl mg_121 rfl rfl (by decide) (by decide) (Nat.le_of_ble_eq_true rfl) (c_so (l := his) (w := 0) hM0 hG0 hhl.1 (by decide) hhl.2.1 hhl.2.2.1 ?_)
        refine aw_c (v := nI 6) rfl (by decide) ?_
        refine aw_ine rfl (fun c38 => ?_) (fun c38 => ?_)
        · refine aw rfl rfl ?_
          refine aw_ne rfl (fun _ => ?_) (fun c => absurd c (by decide))
          refine aw_c (v := -1) rfl (by decide) ?_
          refine aw_ist (ls' := [_, _, _, _, _, _, _, _]) rfl rfl ?_
          refine aw_c (v := nI 0) rfl (by decide) ?_
          refine aw_ist (ls' := [_, _, _, _, _, _, _, _]) rfl rfl ?_
          rw [if_neg (show ¬ (his < 96 ∧ hm T his = true) from fun y => c38 (of_decide_eq_true y.2)), if_neg (fun y => nomatch y.1)] at q
          have hX6 : ¬ hm T mine = true := fun y => c17 (of_decide_eq_true y)
          have hXl : lieOK T mine := hml
          refine aw_loop (α := Option Value) (ll := fun i y => [some (.ref 121), some (.int (nI mine)), some (.int (nI his)), some (.int (bI true)), some (.int (nI hv)), some (.int (exI (ext true (fun a => pB T (lwf W) P true mine his a x) (cnB T mine) i))), some (.int (nI i)), y]) (hh := fun i y => (mh g k v pl br lo c ct pr pt cm bf bt)) (I := fun i y => True) (N := T.1 3 + 1) (fun i y hi hI ih => ?_) (fun y hI => ?_) 0 none (Nat.zero_le _) trivial
          · skip
            have hpb := pB_le (LW := lwf W) (P := P) (im := true) (mine := mine) (his := his) (a := i) (x := x) hG0 (fun a b => Nat.le_of_lt (hB a b)) (by omega)
            cases eb : (ext true (fun a => pB T (lwf W) P true mine his a x) (cnB T mine) i) with
            | none =>
              show AW am_P _ _ _ _ [_, _, _, _, _, some (.int (-1)), _, _] _ _ _
              by_cases e3 : i = T.1 3
              · skip
                have hcn : cnB T mine i = true := by unfold cnB; rw [decide_eq_true e3]; rfl
                have hki : i = T.1 3 ∨ mck T mine i = true := Or.inl e3
                refine aw rfl rfl ?_
                refine aw rfl rfl ?_
                refine aw_getf rfl mg_121 rfl ?_
                refine aw rfl rfl ?_
                refine aw_getfE rfl mg_121 rfl (congrArg Value.int m1) ?_
                refine aw_ialdE rfl mg_134 rfl (by omega) (by decide) mk ?_
                refine aw_igtn rfl (fun c85 => by omega) (fun c85 => ?_)
                refine aw rfl rfl ?_
                refine aw rfl rfl ?_
                refine aw_getf rfl mg_121 rfl ?_
                refine aw rfl rfl ?_
                refine aw_getfE rfl mg_121 rfl (congrArg Value.int m1) ?_
                refine aw_ialdE rfl mg_134 rfl (by omega) (by decide) mk ?_
                refine aw_igen rfl (fun c99 => ?_) (fun c99 => by omega)
                refine aw rfl rfl ?_
                refine aw rfl rfl ?_
                refine aw rfl rfl ?_
                refine aw rfl rfl ?_
                refine aw rfl rfl ?_
                refine aw_cv (d1 := 0) (L1 := 0) rfl rfl mg_121 rfl rfl (by decide) (by decide) (Nat.le_of_ble_eq_true rfl) (c_pairByM (P := P) hM0 hG0 hP hXl hh1 (hC _ hXl.1) hX6 (by omega) hki ?_)
                refine aw_ist (ls' := [_, _, _, _, _, _, _, _]) rfl rfl ?_
                refine aw rfl rfl ?_
                refine aw_lt rfl (fun _ => ?_) (fun c => absurd (by decide) c)
                refine aw rfl rfl ?_
                refine aw_ist (ls' := [_, _, _, _, _, _, _, _]) rfl rfl ?_
                refine aw_incn (c := 1) (ls' := [_, _, _, _, _, _, _, _]) rfl rfl (by decide) rfl ?_
                refine aw rfl rfl ?_
                have e5 : (ext true (fun a => pB T (lwf W) P true mine his a x) (cnB T mine) (i + 1)) = some (pB T (lwf W) P true mine his i x) := by rw [ext_none eb, hcn]; rfl
                have ih := fun y => ih y trivial
                rw [e5] at ih
                exact ih _
              · skip
                refine aw rfl rfl ?_
                refine aw rfl rfl ?_
                refine aw_getf rfl mg_121 rfl ?_
                refine aw rfl rfl ?_
                refine aw_getfE rfl mg_121 rfl (congrArg Value.int m1) ?_
                refine aw_ialdE rfl mg_134 rfl (by omega) (by decide) mk ?_
                refine aw_igtn rfl (fun c85 => by omega) (fun c85 => ?_)
                refine aw rfl rfl ?_
                refine aw rfl rfl ?_
                refine aw_getf rfl mg_121 rfl ?_
                refine aw rfl rfl ?_
                refine aw_getfE rfl mg_121 rfl (congrArg Value.int m1) ?_
                refine aw_ialdE rfl mg_134 rfl (by omega) (by decide) mk ?_
                refine aw_igen rfl (fun c99 => by omega) (fun c99 => ?_)
                refine aw rfl rfl ?_
                refine aw_c (v := nI 4) rfl (by decide) ?_
                refine aw rfl rfl ?_
                refine aw_eq rfl (fun c => absurd c (by decide)) (fun _ => ?_)
                refine aw rfl rfl ?_
                refine aw rfl rfl ?_
                refine aw_muln rfl ?_
                refine aw rfl rfl ?_
                refine aw_cv (d1 := 2) (L1 := 43) rfl rfl mg_121 rfl rfl (by decide) (by decide) (Nat.le_of_ble_eq_true rfl) (c_X11_canKick (l := mine) (w := 0) hM0 hG0 hXl (by decide) (by omega) (fun hz => ?_) (fun hz => ?_))
                · have hcn : cnB T mine i = true := by unfold cnB; rw [mck_iff.mpr hz, Bool.or_true]
                  have hki : i = T.1 3 ∨ mck T mine i = true := Or.inr (mck_iff.mpr hz)
                  refine aw_ne rfl (fun _ => ?_) (fun c => absurd c (by decide))
                  refine aw rfl rfl ?_
                  refine aw rfl rfl ?_
                  refine aw rfl rfl ?_
                  refine aw rfl rfl ?_
                  refine aw rfl rfl ?_
                  refine aw_cv (d1 := 0) (L1 := 0) rfl rfl mg_121 rfl rfl (by decide) (by decide) (Nat.le_of_ble_eq_true rfl) (c_pairByM (P := P) hM0 hG0 hP hXl hh1 (hC _ hXl.1) hX6 (by omega) hki ?_)
                  refine aw_ist (ls' := [_, _, _, _, _, _, _, _]) rfl rfl ?_
                  refine aw rfl rfl ?_
                  refine aw_lt rfl (fun _ => ?_) (fun c => absurd (by decide) c)
                  refine aw rfl rfl ?_
                  refine aw_ist (ls' := [_, _, _, _, _, _, _, _]) rfl rfl ?_
                  refine aw_incn (c := 1) (ls' := [_, _, _, _, _, _, _, _]) rfl rfl (by decide) rfl ?_
                  refine aw rfl rfl ?_
                  have e5 : (ext true (fun a => pB T (lwf W) P true mine his a x) (cnB T mine) (i + 1)) = some (pB T (lwf W) P true mine his i x) := by rw [ext_none eb, hcn]; rfl
                  have ih := fun y => ih y trivial
                  rw [e5] at ih
                  exact ih _
                · refine aw_ne rfl (fun c => absurd (by decide) c) (fun _ => ?_)
                  refine aw rfl rfl ?_
                  refine aw_incn (c := 1) (ls' := [_, _, _, _, _, _, _, _]) rfl rfl (by decide) rfl ?_
                  refine aw rfl rfl ?_
                  have e5 : (ext true (fun a => pB T (lwf W) P true mine his a x) (cnB T mine) (i + 1)) = none := by rw [ext_skip (by unfold cnB; rw [decide_eq_false (by omega), Bool.eq_false_iff.mpr (fun y => hz (mck_iff.mp y))]; rfl), eb]
                  have ih := fun y => ih y trivial
                  rw [e5] at ih
                  exact ih _
            | some p =>
              show AW am_P _ _ _ _ [_, _, _, _, _, some (.int (nI p)), _, _] _ _ _
              obtain ⟨i9, h9, h10⟩ := ext_in _ _ eb
              have hp9 := pB_le (LW := lwf W) (P := P) (im := true) (mine := mine) (his := his) (a := i9) (x := x) hG0 (fun a b => Nat.le_of_lt (hB a b)) (by omega)
              by_cases e3 : i = T.1 3
              · skip
                have hcn : cnB T mine i = true := by unfold cnB; rw [decide_eq_true e3]; rfl
                have hki : i = T.1 3 ∨ mck T mine i = true := Or.inl e3
                refine aw rfl rfl ?_
                refine aw rfl rfl ?_
                refine aw_getf rfl mg_121 rfl ?_
                refine aw rfl rfl ?_
                refine aw_getfE rfl mg_121 rfl (congrArg Value.int m1) ?_
                refine aw_ialdE rfl mg_134 rfl (by omega) (by decide) mk ?_
                refine aw_igtn rfl (fun c85 => by omega) (fun c85 => ?_)
                refine aw rfl rfl ?_
                refine aw rfl rfl ?_
                refine aw_getf rfl mg_121 rfl ?_
                refine aw rfl rfl ?_
                refine aw_getfE rfl mg_121 rfl (congrArg Value.int m1) ?_
                refine aw_ialdE rfl mg_134 rfl (by omega) (by decide) mk ?_
                refine aw_igen rfl (fun c99 => ?_) (fun c99 => by omega)
                refine aw rfl rfl ?_
                refine aw rfl rfl ?_
                refine aw rfl rfl ?_
                refine aw rfl rfl ?_
                refine aw rfl rfl ?_
                refine aw_cv (d1 := 0) (L1 := 0) rfl rfl mg_121 rfl rfl (by decide) (by decide) (Nat.le_of_ble_eq_true rfl) (c_pairByM (P := P) hM0 hG0 hP hXl hh1 (hC _ hXl.1) hX6 (by omega) hki ?_)
                refine aw_ist (ls' := [_, _, _, _, _, _, _, _]) rfl rfl ?_
                refine aw rfl rfl ?_
                refine aw_ltn rfl ?_
                refine aw rfl rfl ?_
                refine aw_eq rfl (fun c => absurd c (by decide)) (fun _ => ?_)
                refine aw rfl rfl ?_
                refine aw rfl rfl ?_
                refine aw_ilen rfl (fun c149 => ?_) (fun c149 => ?_)
                · refine aw_incn (c := 1) (ls' := [_, _, _, _, _, _, _, _]) rfl rfl (by decide) rfl ?_
                  refine aw rfl rfl ?_
                  have e5 : (ext true (fun a => pB T (lwf W) P true mine his a x) (cnB T mine) (i + 1)) = some p := by rw [ext_more eb, hcn]; show (bif true && decide _ then _ else _) = _; rw [decide_eq_false (by omega)]; rfl
                  have ih := fun y => ih y trivial
                  rw [e5] at ih
                  exact ih _
                · refine aw rfl rfl ?_
                  refine aw rfl rfl ?_
                  refine aw_ist (ls' := [_, _, _, _, _, _, _, _]) rfl rfl ?_
                  refine aw_incn (c := 1) (ls' := [_, _, _, _, _, _, _, _]) rfl rfl (by decide) rfl ?_
                  refine aw rfl rfl ?_
                  have e5 : (ext true (fun a => pB T (lwf W) P true mine his a x) (cnB T mine) (i + 1)) = some (pB T (lwf W) P true mine his i x) := by rw [ext_more eb, hcn]; show (bif true && decide _ then _ else _) = _; rw [decide_eq_true (by omega)]; rfl
                  have ih := fun y => ih y trivial
                  rw [e5] at ih
                  exact ih _
              · skip
                refine aw rfl rfl ?_
                refine aw rfl rfl ?_
                refine aw_getf rfl mg_121 rfl ?_
                refine aw rfl rfl ?_
                refine aw_getfE rfl mg_121 rfl (congrArg Value.int m1) ?_
                refine aw_ialdE rfl mg_134 rfl (by omega) (by decide) mk ?_
                refine aw_igtn rfl (fun c85 => by omega) (fun c85 => ?_)
                refine aw rfl rfl ?_
                refine aw rfl rfl ?_
                refine aw_getf rfl mg_121 rfl ?_
                refine aw rfl rfl ?_
                refine aw_getfE rfl mg_121 rfl (congrArg Value.int m1) ?_
                refine aw_ialdE rfl mg_134 rfl (by omega) (by decide) mk ?_
                refine aw_igen rfl (fun c99 => by omega) (fun c99 => ?_)
                refine aw rfl rfl ?_
                refine aw_c (v := nI 4) rfl (by decide) ?_
                refine aw rfl rfl ?_
                refine aw_eq rfl (fun c => absurd c (by decide)) (fun _ => ?_)
                refine aw rfl rfl ?_
                refine aw rfl rfl ?_
                refine aw_muln rfl ?_
                refine aw rfl rfl ?_
                refine aw_cv (d1 := 2) (L1 := 43) rfl rfl mg_121 rfl rfl (by decide) (by decide) (Nat.le_of_ble_eq_true rfl) (c_X11_canKick (l := mine) (w := 0) hM0 hG0 hXl (by decide) (by omega) (fun hz => ?_) (fun hz => ?_))
                · have hcn : cnB T mine i = true := by unfold cnB; rw [mck_iff.mpr hz, Bool.or_true]
                  have hki : i = T.1 3 ∨ mck T mine i = true := Or.inr (mck_iff.mpr hz)
                  refine aw_ne rfl (fun _ => ?_) (fun c => absurd c (by decide))
                  refine aw rfl rfl ?_
                  refine aw rfl rfl ?_
                  refine aw rfl rfl ?_
                  refine aw rfl rfl ?_
                  refine aw rfl rfl ?_
                  refine aw_cv (d1 := 0) (L1 := 0) rfl rfl mg_121 rfl rfl (by decide) (by decide) (Nat.le_of_ble_eq_true rfl) (c_pairByM (P := P) hM0 hG0 hP hXl hh1 (hC _ hXl.1) hX6 (by omega) hki ?_)
                  refine aw_ist (ls' := [_, _, _, _, _, _, _, _]) rfl rfl ?_
                  refine aw rfl rfl ?_
                  refine aw_ltn rfl ?_
                  refine aw rfl rfl ?_
                  refine aw_eq rfl (fun c => absurd c (by decide)) (fun _ => ?_)
                  refine aw rfl rfl ?_
                  refine aw rfl rfl ?_
                  refine aw_ilen rfl (fun c149 => ?_) (fun c149 => ?_)
                  · refine aw_incn (c := 1) (ls' := [_, _, _, _, _, _, _, _]) rfl rfl (by decide) rfl ?_
                    refine aw rfl rfl ?_
                    have e5 : (ext true (fun a => pB T (lwf W) P true mine his a x) (cnB T mine) (i + 1)) = some p := by rw [ext_more eb, hcn]; show (bif true && decide _ then _ else _) = _; rw [decide_eq_false (by omega)]; rfl
                    have ih := fun y => ih y trivial
                    rw [e5] at ih
                    exact ih _
                  · refine aw rfl rfl ?_
                    refine aw rfl rfl ?_
                    refine aw_ist (ls' := [_, _, _, _, _, _, _, _]) rfl rfl ?_
                    refine aw_incn (c := 1) (ls' := [_, _, _, _, _, _, _, _]) rfl rfl (by decide) rfl ?_
                    refine aw rfl rfl ?_
                    have e5 : (ext true (fun a => pB T (lwf W) P true mine his a x) (cnB T mine) (i + 1)) = some (pB T (lwf W) P true mine his i x) := by rw [ext_more eb, hcn]; show (bif true && decide _ then _ else _) = _; rw [decide_eq_true (by omega)]; rfl
                    have ih := fun y => ih y trivial
                    rw [e5] at ih
                    exact ih _
                · refine aw_ne rfl (fun c => absurd (by decide) c) (fun _ => ?_)
                  refine aw rfl rfl ?_
                  refine aw_incn (c := 1) (ls' := [_, _, _, _, _, _, _, _]) rfl rfl (by decide) rfl ?_
                  refine aw rfl rfl ?_
                  have e5 : (ext true (fun a => pB T (lwf W) P true mine his a x) (cnB T mine) (i + 1)) = some p := by rw [ext_skip (by unfold cnB; rw [decide_eq_false (by omega), Bool.eq_false_iff.mpr (fun y => hz (mck_iff.mp y))]; rfl), eb]
                  have ih := fun y => ih y trivial
                  rw [e5] at ih
                  exact ih _
          · skip
            have e8 : ∃ p, (ext true (fun a => pB T (lwf W) P true mine his a x) (cnB T mine) (T.1 3 + 1)) = some p := by
              have hcn : cnB T mine (T.1 3) = true := by unfold cnB; rw [decide_eq_true rfl]; rfl
              cases eb : (ext true (fun a => pB T (lwf W) P true mine his a x) (cnB T mine) (T.1 3)) with
              | none => exact ⟨_, by rw [ext_none eb, hcn]; rfl⟩
              | some p => rw [ext_more eb]; cases (cnB T mine (T.1 3) && _) <;> exact ⟨_, rfl⟩
            obtain ⟨p, e8⟩ := e8
            dsimp only [cond_true, cond_false] at q
            rw [e8] at q ⊢
            show AW am_P _ _ _ _ [_, _, _, _, _, some (.int (nI p)), _, _] _ _ _
            refine aw rfl rfl ?_
            refine aw rfl rfl ?_
            refine aw_getf rfl mg_121 rfl ?_
            refine aw rfl rfl ?_
            refine aw_getfE rfl mg_121 rfl (congrArg Value.int m1) ?_
            refine aw_ialdE rfl mg_134 rfl (by omega) (by decide) mk ?_
            refine aw_igtn rfl (fun c85 => ?_) (fun c85 => by omega)
            refine aw rfl rfl ?_
            exact aw_iret rfl rfl q
        · rw [if_pos (show his < 96 ∧ hm T his = true from ⟨by omega, decide_eq_true c38⟩)] at q
          refine aw_c (v := nI 0) rfl (by decide) ?_
          exact aw_iret rfl rfl q
    · rw [if_pos (show hm T mine = true from decide_eq_true c17)] at q
      refine aw rfl rfl ?_
      exact aw_iret rfl rfl q
  · rw [if_pos c3] at q
    refine aw_c (v := nI 0) rfl (by decide) ?_
    exact aw_iret rfl rfl q
theorem c_pairOfH {Q : Option Value → am_H → Prop} (hM : MR k lv T W) (hG : GS T) {P : Nat → Nat → Nat} {mine his hv : Nat} {x : Int32} (hP : PRl T pr P) (hB : ∀ a b, P a b < 100000000) (hm1 : lone T mine) (hh1 : lone T his) (hC : ∀ i, i < 96 → RW T (lwf W) cm x i) (q : Q (some (.int (nI (pO T (lwf W) P false hv mine his x)))) (mh g k v pl br lo c ct pr pt cm bf bt)) : AC am_P 3 65 281 [.ref 121, .int (nI mine), .int (nI his), .int (bI false), .int (nI hv)] (mh g k v pl br lo c ct pr pt cm bf bt) Q := by
  refine AC.of (ls := [_, _, _, _, _, _, _, _]) rfl ?_
  have hM0 := hM
  have hG0 := hG
  obtain ⟨m0, m1, mr, mw, mf, mk, mli, mt, ms, msq, moc, mwy, msp, mlw⟩ := hM
  obtain ⟨⟨g0, g0x⟩, ⟨g1, g1x⟩, ⟨g2, g2x⟩, ⟨g3, g3x⟩, g4, ⟨g5, g5x⟩, g6, gsq, goc, gwt, gsp, gfr⟩ := hG
  have hm97 := lone_lt hm1
  have hh97 := lone_lt hh1
  unfold pO at q
  refine aw rfl rfl ?_
  refine aw_c (v := nI 96) rfl (by decide) ?_
  refine aw_inen rfl (fun c3 => ?_) (fun c3 => ?_)
  · have hml : lieOK T mine := hm1.resolve_left c3
    rw [if_neg c3] at q
    refine aw rfl rfl ?_
    refine aw_c (v := nI 4) rfl (by decide) ?_
    refine aw rfl rfl ?_
    refine aw_muln rfl ?_
    refine aw_cv (d1 := 1) (L1 := 22) rfl rfl mg_121 rfl rfl (by decide) (by decide) (Nat.le_of_ble_eq_true rfl) (c_so (l := mine) (w := 0) hM0 hG0 hml.1 (by decide) hml.2.1 hml.2.2.1 ?_)
    refine aw_c (v := nI 6) rfl (by decide) ?_
    refine aw_ine rfl (fun c17 => ?_) (fun c17 => ?_)
    · rw [if_neg (show ¬ hm T mine = true from fun y => c17 (of_decide_eq_true y))] at q
      refine aw rfl rfl ?_
      refine aw_c (v := nI 96) rfl (by decide) ?_
      refine aw_igen rfl (fun c26 => ?_) (fun c26 => ?_)
      · refine aw rfl rfl ?_
        refine aw_ne rfl (fun c => absurd (by decide) c) (fun _ => ?_)
        refine aw rfl rfl ?_
        refine aw_c (v := nI 96) rfl (by decide) ?_
        refine aw_inen rfl (fun c50 => by omega) (fun c50 => ?_)
        refine aw_c (v := nI 6) rfl (by decide) ?_
        refine aw rfl rfl ?_
        refine aw_getf rfl mg_121 rfl ?_
        refine aw_c (v := nI 97) rfl (by decide) ?_
        refine aw rfl rfl ?_
        refine aw_muln rfl ?_
        refine aw rfl rfl ?_
        refine aw_addn rfl ?_
        refine aw_ialdE rfl mg_162 rfl (by omega) (by decide) (hP _ _ hm1 hh1) ?_
        refine aw_muln rfl ?_
        exact aw_iret rfl rfl (by rw [if_neg (show ¬ (his < 96 ∧ hm T his = true) from fun y => absurd y.1 (by omega)), if_pos ⟨rfl, by omega⟩] at q; exact q)
      · have hhl : lieOK T his := hh1.resolve_left (by omega)
        refine aw rfl rfl ?_
        refine aw_c (v := nI 4) rfl (by decide) ?_
        refine aw rfl rfl ?_
        refine aw_muln rfl ?_
        refine aw_cv (d1 := 1) (L1 := 22) rfl rfl mg_121 rfl rfl (by decide) (by decide) (Nat.le_of_ble_eq_true rfl) (c_so (l := his) (w := 0) hM0 hG0 hhl.1 (by decide) hhl.2.1 hhl.2.2.1 ?_)
        refine aw_c (v := nI 6) rfl (by decide) ?_
        refine aw_ine rfl (fun c38 => ?_) (fun c38 => ?_)
        · refine aw rfl rfl ?_
          refine aw_ne rfl (fun c => absurd (by decide) c) (fun _ => ?_)
          refine aw rfl rfl ?_
          refine aw_c (v := nI 96) rfl (by decide) ?_
          refine aw_inen rfl (fun c50 => ?_) (fun c50 => by omega)
          refine aw_c (v := -1) rfl (by decide) ?_
          refine aw_ist (ls' := [_, _, _, _, _, _, _, _]) rfl rfl ?_
          refine aw_c (v := nI 0) rfl (by decide) ?_
          refine aw_ist (ls' := [_, _, _, _, _, _, _, _]) rfl rfl ?_
          have h96 : ¬ his = 96 := by omega
          have hh6 : ¬ hm T his = true := fun y => c38 (of_decide_eq_true y)
          rw [if_neg (show ¬ (his < 96 ∧ hm T his = true) from fun y => c38 (of_decide_eq_true y.2)), if_neg (fun y => h96 y.2)] at q
          have hX6 : ¬ hm T his = true := hh6
          have hXl : lieOK T his := hh1.resolve_left h96
          refine aw_loop (α := Option Value) (ll := fun i y => [some (.ref 121), some (.int (nI mine)), some (.int (nI his)), some (.int (bI false)), some (.int (nI hv)), some (.int (exI (ext false (fun a => pB T (lwf W) P false mine his a x) (cnB T his) i))), some (.int (nI i)), y]) (hh := fun i y => (mh g k v pl br lo c ct pr pt cm bf bt)) (I := fun i y => True) (N := T.1 3 + 1) (fun i y hi hI ih => ?_) (fun y hI => ?_) 0 none (Nat.zero_le _) trivial
          · skip
            have hpb := pB_le (LW := lwf W) (P := P) (im := false) (mine := mine) (his := his) (a := i) (x := x) hG0 (fun a b => Nat.le_of_lt (hB a b)) (by omega)
            cases eb : (ext false (fun a => pB T (lwf W) P false mine his a x) (cnB T his) i) with
            | none =>
              show AW am_P _ _ _ _ [_, _, _, _, _, some (.int (-1)), _, _] _ _ _
              by_cases e3 : i = T.1 3
              · skip
                have hcn : cnB T his i = true := by unfold cnB; rw [decide_eq_true e3]; rfl
                have hki : i = T.1 3 ∨ mck T his i = true := Or.inl e3
                refine aw rfl rfl ?_
                refine aw rfl rfl ?_
                refine aw_getf rfl mg_121 rfl ?_
                refine aw rfl rfl ?_
                refine aw_getfE rfl mg_121 rfl (congrArg Value.int m1) ?_
                refine aw_ialdE rfl mg_134 rfl (by omega) (by decide) mk ?_
                refine aw_igtn rfl (fun c85 => by omega) (fun c85 => ?_)
                refine aw rfl rfl ?_
                refine aw rfl rfl ?_
                refine aw_getf rfl mg_121 rfl ?_
                refine aw rfl rfl ?_
                refine aw_getfE rfl mg_121 rfl (congrArg Value.int m1) ?_
                refine aw_ialdE rfl mg_134 rfl (by omega) (by decide) mk ?_
                refine aw_igen rfl (fun c99 => ?_) (fun c99 => by omega)
                refine aw rfl rfl ?_
                refine aw rfl rfl ?_
                refine aw rfl rfl ?_
                refine aw rfl rfl ?_
                refine aw rfl rfl ?_
                refine aw_cv (d1 := 0) (L1 := 0) rfl rfl mg_121 rfl rfl (by decide) (by decide) (Nat.le_of_ble_eq_true rfl) (c_pairByH (P := P) hM0 hG0 hP hXl hm1 (hC _ hXl.1) hX6 (by omega) hki ?_)
                refine aw_ist (ls' := [_, _, _, _, _, _, _, _]) rfl rfl ?_
                refine aw rfl rfl ?_
                refine aw_lt rfl (fun _ => ?_) (fun c => absurd (by decide) c)
                refine aw rfl rfl ?_
                refine aw_ist (ls' := [_, _, _, _, _, _, _, _]) rfl rfl ?_
                refine aw_incn (c := 1) (ls' := [_, _, _, _, _, _, _, _]) rfl rfl (by decide) rfl ?_
                refine aw rfl rfl ?_
                have e5 : (ext false (fun a => pB T (lwf W) P false mine his a x) (cnB T his) (i + 1)) = some (pB T (lwf W) P false mine his i x) := by rw [ext_none eb, hcn]; rfl
                have ih := fun y => ih y trivial
                rw [e5] at ih
                exact ih _
              · skip
                refine aw rfl rfl ?_
                refine aw rfl rfl ?_
                refine aw_getf rfl mg_121 rfl ?_
                refine aw rfl rfl ?_
                refine aw_getfE rfl mg_121 rfl (congrArg Value.int m1) ?_
                refine aw_ialdE rfl mg_134 rfl (by omega) (by decide) mk ?_
                refine aw_igtn rfl (fun c85 => by omega) (fun c85 => ?_)
                refine aw rfl rfl ?_
                refine aw rfl rfl ?_
                refine aw_getf rfl mg_121 rfl ?_
                refine aw rfl rfl ?_
                refine aw_getfE rfl mg_121 rfl (congrArg Value.int m1) ?_
                refine aw_ialdE rfl mg_134 rfl (by omega) (by decide) mk ?_
                refine aw_igen rfl (fun c99 => by omega) (fun c99 => ?_)
                refine aw rfl rfl ?_
                refine aw_c (v := nI 4) rfl (by decide) ?_
                refine aw rfl rfl ?_
                refine aw_eq rfl (fun _ => ?_) (fun c => absurd (by decide) c)
                refine aw rfl rfl ?_
                refine aw_muln rfl ?_
                refine aw rfl rfl ?_
                refine aw_cv (d1 := 2) (L1 := 43) rfl rfl mg_121 rfl rfl (by decide) (by decide) (Nat.le_of_ble_eq_true rfl) (c_X11_canKick (l := his) (w := 0) hM0 hG0 hXl (by decide) (by omega) (fun hz => ?_) (fun hz => ?_))
                · have hcn : cnB T his i = true := by unfold cnB; rw [mck_iff.mpr hz, Bool.or_true]
                  have hki : i = T.1 3 ∨ mck T his i = true := Or.inr (mck_iff.mpr hz)
                  refine aw_ne rfl (fun _ => ?_) (fun c => absurd c (by decide))
                  refine aw rfl rfl ?_
                  refine aw rfl rfl ?_
                  refine aw rfl rfl ?_
                  refine aw rfl rfl ?_
                  refine aw rfl rfl ?_
                  refine aw_cv (d1 := 0) (L1 := 0) rfl rfl mg_121 rfl rfl (by decide) (by decide) (Nat.le_of_ble_eq_true rfl) (c_pairByH (P := P) hM0 hG0 hP hXl hm1 (hC _ hXl.1) hX6 (by omega) hki ?_)
                  refine aw_ist (ls' := [_, _, _, _, _, _, _, _]) rfl rfl ?_
                  refine aw rfl rfl ?_
                  refine aw_lt rfl (fun _ => ?_) (fun c => absurd (by decide) c)
                  refine aw rfl rfl ?_
                  refine aw_ist (ls' := [_, _, _, _, _, _, _, _]) rfl rfl ?_
                  refine aw_incn (c := 1) (ls' := [_, _, _, _, _, _, _, _]) rfl rfl (by decide) rfl ?_
                  refine aw rfl rfl ?_
                  have e5 : (ext false (fun a => pB T (lwf W) P false mine his a x) (cnB T his) (i + 1)) = some (pB T (lwf W) P false mine his i x) := by rw [ext_none eb, hcn]; rfl
                  have ih := fun y => ih y trivial
                  rw [e5] at ih
                  exact ih _
                · refine aw_ne rfl (fun c => absurd (by decide) c) (fun _ => ?_)
                  refine aw rfl rfl ?_
                  refine aw_incn (c := 1) (ls' := [_, _, _, _, _, _, _, _]) rfl rfl (by decide) rfl ?_
                  refine aw rfl rfl ?_
                  have e5 : (ext false (fun a => pB T (lwf W) P false mine his a x) (cnB T his) (i + 1)) = none := by rw [ext_skip (by unfold cnB; rw [decide_eq_false (by omega), Bool.eq_false_iff.mpr (fun y => hz (mck_iff.mp y))]; rfl), eb]
                  have ih := fun y => ih y trivial
                  rw [e5] at ih
                  exact ih _
            | some p =>
              show AW am_P _ _ _ _ [_, _, _, _, _, some (.int (nI p)), _, _] _ _ _
              obtain ⟨i9, h9, h10⟩ := ext_in _ _ eb
              have hp9 := pB_le (LW := lwf W) (P := P) (im := false) (mine := mine) (his := his) (a := i9) (x := x) hG0 (fun a b => Nat.le_of_lt (hB a b)) (by omega)
              by_cases e3 : i = T.1 3
              · skip
                have hcn : cnB T his i = true := by unfold cnB; rw [decide_eq_true e3]; rfl
                have hki : i = T.1 3 ∨ mck T his i = true := Or.inl e3
                refine aw rfl rfl ?_
                refine aw rfl rfl ?_
                refine aw_getf rfl mg_121 rfl ?_
                refine aw rfl rfl ?_
                refine aw_getfE rfl mg_121 rfl (congrArg Value.int m1) ?_
                refine aw_ialdE rfl mg_134 rfl (by omega) (by decide) mk ?_
                refine aw_igtn rfl (fun c85 => by omega) (fun c85 => ?_)
                refine aw rfl rfl ?_
                refine aw rfl rfl ?_
                refine aw_getf rfl mg_121 rfl ?_
                refine aw rfl rfl ?_
                refine aw_getfE rfl mg_121 rfl (congrArg Value.int m1) ?_
                refine aw_ialdE rfl mg_134 rfl (by omega) (by decide) mk ?_
                refine aw_igen rfl (fun c99 => ?_) (fun c99 => by omega)
                refine aw rfl rfl ?_
                refine aw rfl rfl ?_
                refine aw rfl rfl ?_
                refine aw rfl rfl ?_
                refine aw rfl rfl ?_
                refine aw_cv (d1 := 0) (L1 := 0) rfl rfl mg_121 rfl rfl (by decide) (by decide) (Nat.le_of_ble_eq_true rfl) (c_pairByH (P := P) hM0 hG0 hP hXl hm1 (hC _ hXl.1) hX6 (by omega) hki ?_)
                refine aw_ist (ls' := [_, _, _, _, _, _, _, _]) rfl rfl ?_
                refine aw rfl rfl ?_
                refine aw_ltn rfl ?_
                refine aw rfl rfl ?_
                refine aw_eq rfl (fun _ => ?_) (fun c => absurd (by decide) c)
                refine aw rfl rfl ?_
                refine aw rfl rfl ?_
                refine aw_igen rfl (fun c159 => ?_) (fun c159 => ?_)
                · refine aw_incn (c := 1) (ls' := [_, _, _, _, _, _, _, _]) rfl rfl (by decide) rfl ?_
                  refine aw rfl rfl ?_
                  have e5 : (ext false (fun a => pB T (lwf W) P false mine his a x) (cnB T his) (i + 1)) = some p := by rw [ext_more eb, hcn]; show (bif true && decide _ then _ else _) = _; rw [decide_eq_false (by omega)]; rfl
                  have ih := fun y => ih y trivial
                  rw [e5] at ih
                  exact ih _
                · refine aw rfl rfl ?_
                  refine aw_ist (ls' := [_, _, _, _, _, _, _, _]) rfl rfl ?_
                  refine aw_incn (c := 1) (ls' := [_, _, _, _, _, _, _, _]) rfl rfl (by decide) rfl ?_
                  refine aw rfl rfl ?_
                  have e5 : (ext false (fun a => pB T (lwf W) P false mine his a x) (cnB T his) (i + 1)) = some (pB T (lwf W) P false mine his i x) := by rw [ext_more eb, hcn]; show (bif true && decide _ then _ else _) = _; rw [decide_eq_true (by omega)]; rfl
                  have ih := fun y => ih y trivial
                  rw [e5] at ih
                  exact ih _
              · skip
                refine aw rfl rfl ?_
                refine aw rfl rfl ?_
                refine aw_getf rfl mg_121 rfl ?_
                refine aw rfl rfl ?_
                refine aw_getfE rfl mg_121 rfl (congrArg Value.int m1) ?_
                refine aw_ialdE rfl mg_134 rfl (by omega) (by decide) mk ?_
                refine aw_igtn rfl (fun c85 => by omega) (fun c85 => ?_)
                refine aw rfl rfl ?_
                refine aw rfl rfl ?_
                refine aw_getf rfl mg_121 rfl ?_
                refine aw rfl rfl ?_
                refine aw_getfE rfl mg_121 rfl (congrArg Value.int m1) ?_
                refine aw_ialdE rfl mg_134 rfl (by omega) (by decide) mk ?_
                refine aw_igen rfl (fun c99 => by omega) (fun c99 => ?_)
                refine aw rfl rfl ?_
                refine aw_c (v := nI 4) rfl (by decide) ?_
                refine aw rfl rfl ?_
                refine aw_eq rfl (fun _ => ?_) (fun c => absurd (by decide) c)
                refine aw rfl rfl ?_
                refine aw_muln rfl ?_
                refine aw rfl rfl ?_
                refine aw_cv (d1 := 2) (L1 := 43) rfl rfl mg_121 rfl rfl (by decide) (by decide) (Nat.le_of_ble_eq_true rfl) (c_X11_canKick (l := his) (w := 0) hM0 hG0 hXl (by decide) (by omega) (fun hz => ?_) (fun hz => ?_))
                · have hcn : cnB T his i = true := by unfold cnB; rw [mck_iff.mpr hz, Bool.or_true]
                  have hki : i = T.1 3 ∨ mck T his i = true := Or.inr (mck_iff.mpr hz)
                  refine aw_ne rfl (fun _ => ?_) (fun c => absurd c (by decide))
                  refine aw rfl rfl ?_
                  refine aw rfl rfl ?_
                  refine aw rfl rfl ?_
                  refine aw rfl rfl ?_
                  refine aw rfl rfl ?_
                  refine aw_cv (d1 := 0) (L1 := 0) rfl rfl mg_121 rfl rfl (by decide) (by decide) (Nat.le_of_ble_eq_true rfl) (c_pairByH (P := P) hM0 hG0 hP hXl hm1 (hC _ hXl.1) hX6 (by omega) hki ?_)
                  refine aw_ist (ls' := [_, _, _, _, _, _, _, _]) rfl rfl ?_
                  refine aw rfl rfl ?_
                  refine aw_ltn rfl ?_
                  refine aw rfl rfl ?_
                  refine aw_eq rfl (fun _ => ?_) (fun c => absurd (by decide) c)
                  refine aw rfl rfl ?_
                  refine aw rfl rfl ?_
                  refine aw_igen rfl (fun c159 => ?_) (fun c159 => ?_)
                  · refine aw_incn (c := 1) (ls' := [_, _, _, _, _, _, _, _]) rfl rfl (by decide) rfl ?_
                    refine aw rfl rfl ?_
                    have e5 : (ext false (fun a => pB T (lwf W) P false mine his a x) (cnB T his) (i + 1)) = some p := by rw [ext_more eb, hcn]; show (bif true && decide _ then _ else _) = _; rw [decide_eq_false (by omega)]; rfl
                    have ih := fun y => ih y trivial
                    rw [e5] at ih
                    exact ih _
                  · refine aw rfl rfl ?_
                    refine aw_ist (ls' := [_, _, _, _, _, _, _, _]) rfl rfl ?_
                    refine aw_incn (c := 1) (ls' := [_, _, _, _, _, _, _, _]) rfl rfl (by decide) rfl ?_
                    refine aw rfl rfl ?_
                    have e5 : (ext false (fun a => pB T (lwf W) P false mine his a x) (cnB T his) (i + 1)) = some (pB T (lwf W) P false mine his i x) := by rw [ext_more eb, hcn]; show (bif true && decide _ then _ else _) = _; rw [decide_eq_true (by omega)]; rfl
                    have ih := fun y => ih y trivial
                    rw [e5] at ih
                    exact ih _
                · refine aw_ne rfl (fun c => absurd (by decide) c) (fun _ => ?_)
                  refine aw rfl rfl ?_
                  refine aw_incn (c := 1) (ls' := [_, _, _, _, _, _, _, _]) rfl rfl (by decide) rfl ?_
                  refine aw rfl rfl ?_
                  have e5 : (ext false (fun a => pB T (lwf W) P false mine his a x) (cnB T his) (i + 1)) = some p := by rw [ext_skip (by unfold cnB; rw [decide_eq_false (by omega), Bool.eq_false_iff.mpr (fun y => hz (mck_iff.mp y))]; rfl), eb]
                  have ih := fun y => ih y trivial
                  rw [e5] at ih
                  exact ih _
          · skip
            have e8 : ∃ p, (ext false (fun a => pB T (lwf W) P false mine his a x) (cnB T his) (T.1 3 + 1)) = some p := by
              have hcn : cnB T his (T.1 3) = true := by unfold cnB; rw [decide_eq_true rfl]; rfl
              cases eb : (ext false (fun a => pB T (lwf W) P false mine his a x) (cnB T his) (T.1 3)) with
              | none => exact ⟨_, by rw [ext_none eb, hcn]; rfl⟩
              | some p => rw [ext_more eb]; cases (cnB T his (T.1 3) && _) <;> exact ⟨_, rfl⟩
            obtain ⟨p, e8⟩ := e8
            dsimp only [cond_true, cond_false] at q
            rw [e8] at q ⊢
            show AW am_P _ _ _ _ [_, _, _, _, _, some (.int (nI p)), _, _] _ _ _
            refine aw rfl rfl ?_
            refine aw rfl rfl ?_
            refine aw_getf rfl mg_121 rfl ?_
            refine aw rfl rfl ?_
            refine aw_getfE rfl mg_121 rfl (congrArg Value.int m1) ?_
            refine aw_ialdE rfl mg_134 rfl (by omega) (by decide) mk ?_
            refine aw_igtn rfl (fun c85 => ?_) (fun c85 => by omega)
            refine aw rfl rfl ?_
            exact aw_iret rfl rfl q
        · rw [if_pos (show his < 96 ∧ hm T his = true from ⟨by omega, decide_eq_true c38⟩)] at q
          refine aw_c (v := nI 0) rfl (by decide) ?_
          exact aw_iret rfl rfl q
    · rw [if_pos (show hm T mine = true from decide_eq_true c17)] at q
      refine aw rfl rfl ?_
      exact aw_iret rfl rfl q
  · rw [if_pos c3] at q
    refine aw_c (v := nI 0) rfl (by decide) ?_
    exact aw_iret rfl rfl q
end M1
