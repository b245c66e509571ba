/-! ===== formulas and laws ===== -/
/-- a formula: what is pushed (0 an int, 1 a variable), what is joined (2 +, 3 -, 4 *, 5 /), in the order in which it is done -/
abbrev Ex : Type := List (Nat × Int32)
def ex_op (o : Nat) (a b : Int32) : Int32 := if o = 2 then a + b else if o = 3 then a - b else if o = 4 then a * b else a / b
/-- what it is; none where it divides by 0 -/
def ex_one : List Int32 → Option Int32
  | [x] => some x
  | _ => none
def ex_two (st : List Int32) (f : Int32 → Int32 → List Int32 → Option Int32) : Option Int32 := match st with
  | b :: a :: r => f b a r
  | _ => none
def ex_val (v : Nat → Int32) : Ex → List Int32 → Option Int32
  | [], st => ex_one st
  | (o, y) :: t, st => if o = 0 then ex_val v t (y :: st) else if o = 1 then ex_val v t (v y.toNatClampNeg :: st) else ex_two st fun b a r => if o = 5 ∧ b = 0 then none else ex_val v t (ex_op o a b :: r)
def ex_wf : Ex → Nat → Prop
  | [], d => d = 1
  | (o, y) :: t, d => if o = 0 then d < 30 ∧ ex_wf t (d + 1) else if o = 1 then d < 30 ∧ (∃ j : Nat, j < 7 ∧ y = nI j) ∧ ex_wf t (d + 1) else o ≤ 5 ∧ 2 ≤ d ∧ ex_wf t (d - 1)
/-- the reference's two rows hold it from c on -/
def ex_in (cd ci : Nat → Int32) : Nat → Ex → Prop
  | _, [] => True
  | c, (o, y) :: t => cd c = nI o ∧ ci c = y ∧ ex_in cd ci (c + 1) t
def ex_pl (pl : Nat → Int32) : List Int32 → Prop
  | [] => True
  | x :: r => pl r.length = x ∧ ex_pl pl r
theorem ex_pl_upd {pl : Nat → Int32} {x : Int32} : ∀ (st : List Int32) (i : Nat), st.length ≤ i → ex_pl pl st → ex_pl (upd pl i x) st := by
  intro st
  induction st with
  | nil => intro _ _ _; trivial
  | cons y r ih =>
    intro i hi hp
    have hl : (y :: r).length = r.length + 1 := rfl
    refine ⟨?_, ih i (by omega) hp.2⟩
    rw [pk_un (by omega)]
    exact hp.1
section M1
variable {g : am_H} {k : Mk} {v pl : Nat → Int32} {br lo : Int32} {c ct pr pt cm bf bt : Nat → Int32}
theorem l_termOf {Q : Option Value → am_H → Prop} {fr : Int32} : ∀ (e : Ex) (a : Nat) (st : List Int32) (pl : Nat → Int32) (l5 l6 l7 : Option Value) (_ : ex_in (k.2.1 46) (k.2.1 47) a e) (_ : ex_wf e st.length) (_ : ex_pl pl st) (_ : st.length ≤ 30) (_ : a + e.length ≤ 840) (_ : ∀ pl x, ex_val v e st = some x → Q (some (.int x)) (mh g k v pl br lo c ct pr pt cm bf bt)) (_ : ∀ pl, ex_val v e st = none → Q (some (.int (nI 0))) (mh g k v pl (nI 1) lo c ct pr pt cm bf bt)), AW am_P 0 0 234 5 [some (.ref 121), some (.int fr), some (.int (nI (a + e.length))), some (.int (nI st.length)), some (.int (nI a)), l5, l6, l7] [] (mh g k v pl br lo c ct pr pt cm bf bt) Q := by
  intro e
  induction e with
  | nil =>
    intro a st pl l5 l6 l7 hin hwf hpl hd hl q1 q0
    have hst : st.length = 1 := hwf
    obtain ⟨x, rfl⟩ : ∃ x, st = [x] := by
      match st, hst with
      | [x], _ => exact ⟨x, rfl⟩
    have hx : pl 0 = x := hpl.1
    have hl0 : a + ([] : Ex).length = a := rfl
    have ha : a ≤ 840 := hl
    refine aw rfl rfl ?_
    refine aw rfl rfl ?_
    refine aw_igen rfl (fun c8 => ?_) (fun c8 => absurd (Nat.le_refl a) c8)
    refine aw rfl rfl ?_
    refine aw_getf rfl mg_121 rfl ?_
    refine aw_c (v := nI 0) rfl (by decide) ?_
    refine aw_iald rfl mg_156 rfl (by omega) (by decide) ?_
    exact aw_iret rfl rfl (by rw [hx]; exact q1 _ _ rfl)
  | cons w t ih =>
    obtain ⟨o, y⟩ := w
    intro a st pl l5 l6 l7 hin hwf hpl hd hl q1 q0
    obtain ⟨hc, hy, hin⟩ := hin
    have hlen : ((o, y) :: t).length = t.length + 1 := rfl
    have hto : a + ((o, y) :: t).length = a + 1 + t.length := by rw [hlen]; omega
    rw [hlen] at hl
    rw [hto]
    by_cases h0 : o = 0
    · subst h0
      rw [ex_wf, if_pos rfl] at hwf
      have qe : ex_val v ((0, y) :: t) st = ex_val v t (y :: st) := by rw [ex_val, if_pos rfl]
      rw [qe] at q1 q0
      refine aw rfl rfl ?_
      refine aw rfl rfl ?_
      refine aw_igen rfl (fun c8 => by omega) (fun c8 => ?_)
      refine aw rfl rfl ?_
      refine aw_getf rfl mg_121 rfl ?_
      refine aw rfl rfl ?_
      refine aw_ialdE rfl mg_152 rfl (by omega) (by decide) hc ?_
      refine aw_ist (ls' := [_, _, _, _, _, _, _, _]) rfl rfl ?_
      refine aw rfl rfl ?_
      refine aw_c (v := nI 2) rfl (by decide) ?_
      refine aw_ige rfl (fun c => absurd c (by decide)) (fun _ => ?_)
      refine aw rfl rfl ?_
      refine aw_getf rfl mg_121 rfl ?_
      refine aw rfl rfl ?_
      refine aw rfl rfl ?_
      refine aw_ne rfl (fun c => absurd (by decide) c) (fun _ => ?_)
      refine aw rfl rfl ?_
      refine aw_getf rfl mg_121 rfl ?_
      refine aw rfl rfl ?_
      refine aw_ialdE rfl mg_153 rfl (by omega) (by decide) hy ?_
      refine aw rfl rfl ?_
      refine aw_iastU rfl mg_156 rfl (by omega) (by decide) (by decide) mu_156 ?_
      refine aw_incn (c := 1) (ls' := [_, _, _, _, _, _, _, _]) rfl rfl (by decide) rfl ?_
      refine aw rfl rfl ?_
      refine aw_incn (c := 1) (ls' := [_, _, _, _, _, _, _, _]) rfl rfl (by decide) rfl ?_
      refine aw rfl rfl ?_
      exact ih (a + 1) (y :: st) _ _ _ _ hin hwf.2 ⟨pk_us, ex_pl_upd st _ (Nat.le_refl _) hpl⟩ (by show st.length + 1 ≤ 30; omega) (by omega) q1 q0
    · by_cases h1 : o = 1
      · subst h1
        rw [ex_wf, if_neg h0, if_pos rfl] at hwf
        obtain ⟨hd2, ⟨j, hj, rfl⟩, hwf⟩ := hwf
        have qe : ex_val v ((1, nI j) :: t) st = ex_val v t (v j :: st) := by rw [ex_val, if_neg h0, if_pos rfl, nI_clamp (by omega)]
        rw [qe] at q1 q0
        refine aw rfl rfl ?_
        refine aw rfl rfl ?_
        refine aw_igen rfl (fun c8 => by omega) (fun c8 => ?_)
        refine aw rfl rfl ?_
        refine aw_getf rfl mg_121 rfl ?_
        refine aw rfl rfl ?_
        refine aw_ialdE rfl mg_152 rfl (by omega) (by decide) hc ?_
        refine aw_ist (ls' := [_, _, _, _, _, _, _, _]) rfl rfl ?_
        refine aw rfl rfl ?_
        refine aw_c (v := nI 2) rfl (by decide) ?_
        refine aw_ige rfl (fun c => absurd c (by decide)) (fun _ => ?_)
        refine aw rfl rfl ?_
        refine aw_getf rfl mg_121 rfl ?_
        refine aw rfl rfl ?_
        refine aw rfl rfl ?_
        refine aw_ne rfl (fun _ => ?_) (fun c => absurd c (by decide))
        refine aw rfl rfl ?_
        refine aw_getf rfl mg_121 rfl ?_
        refine aw rfl rfl ?_
        refine aw_getf rfl mg_121 rfl ?_
        refine aw rfl rfl ?_
        refine aw_ialdE rfl mg_153 rfl (by omega) (by decide) hy ?_
        refine aw_iald rfl mg_155 rfl (by omega) (by decide) ?_
        refine aw_iastU rfl mg_156 rfl (by omega) (by decide) (by decide) mu_156 ?_
        refine aw_incn (c := 1) (ls' := [_, _, _, _, _, _, _, _]) rfl rfl (by decide) rfl ?_
        refine aw rfl rfl ?_
        refine aw_incn (c := 1) (ls' := [_, _, _, _, _, _, _, _]) rfl rfl (by decide) rfl ?_
        refine aw rfl rfl ?_
        exact ih (a + 1) (v j :: st) _ _ _ _ hin hwf ⟨pk_us, ex_pl_upd st _ (Nat.le_refl _) hpl⟩ (by show st.length + 1 ≤ 30; omega) (by omega) q1 q0
      · rw [ex_wf, if_neg h0, if_neg h1] at hwf
        obtain ⟨ho5, hd2, hwf⟩ := hwf
        obtain ⟨b, x, r, rfl⟩ : ∃ b x r, st = b :: x :: r := by
          match st, hd2 with
          | b :: x :: r, _ => exact ⟨b, x, r, rfl⟩
        have hrl : (b :: x :: r).length = r.length + 2 := rfl
        have hb : pl (r.length + 1) = b := hpl.1
        have hx : pl r.length = x := hpl.2.1
        have hlx : r.length + 2 ≤ 30 := hd
        have hr2 : r.length + 2 - 1 = r.length + 1 := rfl
        have ih' : ∀ z pl' (l5 l6 l7 : Option Value), ex_pl pl' (z :: r) → (∀ pl x, ex_val v t (z :: r) = some x → Q (some (.int x)) (mh g k v pl br lo c ct pr pt cm bf bt)) → (∀ pl, ex_val v t (z :: r) = none → Q (some (.int (nI 0))) (mh g k v pl (nI 1) lo c ct pr pt cm bf bt)) → AW am_P 0 0 234 5 [some (.ref 121), some (.int fr), some (.int (nI (a + 1 + t.length))), some (.int (nI (r.length + 1))), some (.int (nI (a + 1))), l5, l6, l7] [] (mh g k v pl' br lo c ct pr pt cm bf bt) Q :=
          fun z pl' l5 l6 l7 hp q1 q0 => ih (a + 1) (z :: r) pl' l5 l6 l7 hin hwf hp (by show r.length + 1 ≤ 30; omega) (by omega) q1 q0
        have hpu : ∀ z, ex_pl (upd pl r.length z) (z :: r) := fun z => ⟨pk_us, ex_pl_upd r _ (Nat.le_refl _) hpl.2.2⟩
        by_cases e2 : o = 2
        · subst e2
          have qe : ex_val v ((2, y) :: t) (b :: x :: r) = ex_val v t ((x + b) :: r) := by rw [ex_val, if_neg h0, if_neg h1]; show (if 2 = 5 ∧ b = 0 then none else ex_val v t (ex_op 2 x b :: r)) = _; rw [if_neg (fun z => absurd z.1 (by decide))]; rfl
          rw [qe] at q1 q0
          refine aw rfl rfl ?_
          refine aw rfl rfl ?_
          refine aw_igen rfl (fun c8 => by omega) (fun c8 => ?_)
          refine aw rfl rfl ?_
          refine aw_getf rfl mg_121 rfl ?_
          refine aw rfl rfl ?_
          refine aw_ialdE rfl mg_152 rfl (by omega) (by decide) hc ?_
          refine aw_ist (ls' := [_, _, _, _, _, _, _, _]) rfl rfl ?_
          refine aw rfl rfl ?_
          refine aw_c (v := nI 2) rfl (by decide) ?_
          refine aw_ige rfl (fun _ => ?_) (fun c => absurd (by decide) c)
          refine aw_decn (c := 1) (ls' := [_, _, _, _, _, _, _, _]) rfl rfl (by decide) (by omega) rfl ?_
          refine aw rfl rfl ?_
          refine aw_getf rfl mg_121 rfl ?_
          refine aw rfl rfl ?_
          refine aw_c (v := nI 1) rfl (by decide) ?_
          refine aw_subn rfl (by omega) ?_
          refine aw_ialdE (k := r.length) rfl mg_156 rfl (by omega) (by decide) hx ?_
          refine aw_ist (ls' := [_, _, _, _, _, _, _, _]) rfl rfl ?_
          refine aw rfl rfl ?_
          refine aw_getf rfl mg_121 rfl ?_
          refine aw rfl rfl ?_
          refine aw_ialdE (k := r.length + 1) rfl mg_156 rfl (by omega) (by decide) hb ?_
          refine aw_ist (ls' := [_, _, _, _, _, _, _, _]) rfl rfl ?_
          refine aw rfl rfl ?_
          refine aw_c (v := nI 5) rfl (by decide) ?_
          refine aw_ine rfl (fun _ => ?_) (fun c => absurd c (by decide))
          refine aw rfl rfl ?_
          refine aw_getf rfl mg_121 rfl ?_
          refine aw rfl rfl ?_
          refine aw_c (v := nI 1) rfl (by decide) ?_
          refine aw_subn rfl (by omega) ?_
          refine aw rfl rfl ?_
          refine aw_c (v := nI 2) rfl (by decide) ?_
          refine aw_ine rfl (fun c => absurd (by decide) c) (fun _ => ?_)
          refine aw rfl rfl ?_
          refine aw rfl rfl ?_
          refine aw rfl rfl ?_
          refine aw rfl rfl ?_
          refine aw_iastU (k := r.length) rfl mg_156 rfl (by omega) (by decide) (by decide) mu_156 ?_
          refine aw_incn (c := 1) (ls' := [_, _, _, _, _, _, _, _]) rfl rfl (by decide) rfl ?_
          refine aw rfl rfl ?_
          exact ih' _ _ _ _ _ (hpu _) q1 q0
        by_cases e3 : o = 3
        · subst e3
          have qe : ex_val v ((3, y) :: t) (b :: x :: r) = ex_val v t ((x - b) :: r) := by rw [ex_val, if_neg h0, if_neg h1]; show (if 3 = 5 ∧ b = 0 then none else ex_val v t (ex_op 3 x b :: r)) = _; rw [if_neg (fun z => absurd z.1 (by decide))]; rfl
          rw [qe] at q1 q0
          refine aw rfl rfl ?_
          refine aw rfl rfl ?_
          refine aw_igen rfl (fun c8 => by omega) (fun c8 => ?_)
          refine aw rfl rfl ?_
          refine aw_getf rfl mg_121 rfl ?_
          refine aw rfl rfl ?_
          refine aw_ialdE rfl mg_152 rfl (by omega) (by decide) hc ?_
          refine aw_ist (ls' := [_, _, _, _, _, _, _, _]) rfl rfl ?_
          refine aw rfl rfl ?_
          refine aw_c (v := nI 2) rfl (by decide) ?_
          refine aw_ige rfl (fun _ => ?_) (fun c => absurd (by decide) c)
          refine aw_decn (c := 1) (ls' := [_, _, _, _, _, _, _, _]) rfl rfl (by decide) (by omega) rfl ?_
          refine aw rfl rfl ?_
          refine aw_getf rfl mg_121 rfl ?_
          refine aw rfl rfl ?_
          refine aw_c (v := nI 1) rfl (by decide) ?_
          refine aw_subn rfl (by omega) ?_
          refine aw_ialdE (k := r.length) rfl mg_156 rfl (by omega) (by decide) hx ?_
          refine aw_ist (ls' := [_, _, _, _, _, _, _, _]) rfl rfl ?_
          refine aw rfl rfl ?_
          refine aw_getf rfl mg_121 rfl ?_
          refine aw rfl rfl ?_
          refine aw_ialdE (k := r.length + 1) rfl mg_156 rfl (by omega) (by decide) hb ?_
          refine aw_ist (ls' := [_, _, _, _, _, _, _, _]) rfl rfl ?_
          refine aw rfl rfl ?_
          refine aw_c (v := nI 5) rfl (by decide) ?_
          refine aw_ine rfl (fun _ => ?_) (fun c => absurd c (by decide))
          refine aw rfl rfl ?_
          refine aw_getf rfl mg_121 rfl ?_
          refine aw rfl rfl ?_
          refine aw_c (v := nI 1) rfl (by decide) ?_
          refine aw_subn rfl (by omega) ?_
          refine aw rfl rfl ?_
          refine aw_c (v := nI 2) rfl (by decide) ?_
          refine aw_ine rfl (fun _ => ?_) (fun c => absurd c (by decide))
          refine aw rfl rfl ?_
          refine aw_c (v := nI 3) rfl (by decide) ?_
          refine aw_ine rfl (fun c => absurd (by decide) c) (fun _ => ?_)
          refine aw rfl rfl ?_
          refine aw rfl rfl ?_
          refine aw rfl rfl ?_
          refine aw rfl rfl ?_
          refine aw_iastU (k := r.length) rfl mg_156 rfl (by omega) (by decide) (by decide) mu_156 ?_
          refine aw_incn (c := 1) (ls' := [_, _, _, _, _, _, _, _]) rfl rfl (by decide) rfl ?_
          refine aw rfl rfl ?_
          exact ih' _ _ _ _ _ (hpu _) q1 q0
        by_cases e4 : o = 4
        · subst e4
          have qe : ex_val v ((4, y) :: t) (b :: x :: r) = ex_val v t ((x * b) :: r) := by rw [ex_val, if_neg h0, if_neg h1]; show (if 4 = 5 ∧ b = 0 then none else ex_val v t (ex_op 4 x b :: r)) = _; rw [if_neg (fun z => absurd z.1 (by decide))]; rfl
          rw [qe] at q1 q0
          refine aw rfl rfl ?_
          refine aw rfl rfl ?_
          refine aw_igen rfl (fun c8 => by omega) (fun c8 => ?_)
          refine aw rfl rfl ?_
          refine aw_getf rfl mg_121 rfl ?_
          refine aw rfl rfl ?_
          refine aw_ialdE rfl mg_152 rfl (by omega) (by decide) hc ?_
          refine aw_ist (ls' := [_, _, _, _, _, _, _, _]) rfl rfl ?_
          refine aw rfl rfl ?_
          refine aw_c (v := nI 2) rfl (by decide) ?_
          refine aw_ige rfl (fun _ => ?_) (fun c => absurd (by decide) c)
          refine aw_decn (c := 1) (ls' := [_, _, _, _, _, _, _, _]) rfl rfl (by decide) (by omega) rfl ?_
          refine aw rfl rfl ?_
          refine aw_getf rfl mg_121 rfl ?_
          refine aw rfl rfl ?_
          refine aw_c (v := nI 1) rfl (by decide) ?_
          refine aw_subn rfl (by omega) ?_
          refine aw_ialdE (k := r.length) rfl mg_156 rfl (by omega) (by decide) hx ?_
          refine aw_ist (ls' := [_, _, _, _, _, _, _, _]) rfl rfl ?_
          refine aw rfl rfl ?_
          refine aw_getf rfl mg_121 rfl ?_
          refine aw rfl rfl ?_
          refine aw_ialdE (k := r.length + 1) rfl mg_156 rfl (by omega) (by decide) hb ?_
          refine aw_ist (ls' := [_, _, _, _, _, _, _, _]) rfl rfl ?_
          refine aw rfl rfl ?_
          refine aw_c (v := nI 5) rfl (by decide) ?_
          refine aw_ine rfl (fun _ => ?_) (fun c => absurd c (by decide))
          refine aw rfl rfl ?_
          refine aw_getf rfl mg_121 rfl ?_
          refine aw rfl rfl ?_
          refine aw_c (v := nI 1) rfl (by decide) ?_
          refine aw_subn rfl (by omega) ?_
          refine aw rfl rfl ?_
          refine aw_c (v := nI 2) rfl (by decide) ?_
          refine aw_ine rfl (fun _ => ?_) (fun c => absurd c (by decide))
          refine aw rfl rfl ?_
          refine aw_c (v := nI 3) rfl (by decide) ?_
          refine aw_ine rfl (fun _ => ?_) (fun c => absurd c (by decide))
          refine aw rfl rfl ?_
          refine aw_c (v := nI 4) rfl (by decide) ?_
          refine aw_ine rfl (fun c => absurd (by decide) c) (fun _ => ?_)
          refine aw rfl rfl ?_
          refine aw rfl rfl ?_
          refine aw rfl rfl ?_
          refine aw rfl rfl ?_
          refine aw_iastU (k := r.length) rfl mg_156 rfl (by omega) (by decide) (by decide) mu_156 ?_
          refine aw_incn (c := 1) (ls' := [_, _, _, _, _, _, _, _]) rfl rfl (by decide) rfl ?_
          refine aw rfl rfl ?_
          exact ih' _ _ _ _ _ (hpu _) q1 q0
        by_cases e5 : o = 5
        · subst e5
          have qe : ¬ b = 0 → ex_val v ((5, y) :: t) (b :: x :: r) = ex_val v t ((x / b) :: r) := fun hz => by rw [ex_val, if_neg h0, if_neg h1]; show (if 5 = 5 ∧ b = 0 then none else ex_val v t (ex_op 5 x b :: r)) = _; rw [if_neg (fun z => hz z.2)]; rfl
          have qz : b = 0 → ex_val v ((5, y) :: t) (b :: x :: r) = none := fun hz => by rw [ex_val, if_neg h0, if_neg h1]; show (if 5 = 5 ∧ b = 0 then none else ex_val v t (ex_op 5 x b :: r)) = _; rw [if_pos ⟨rfl, hz⟩]
          refine aw rfl rfl ?_
          refine aw rfl rfl ?_
          refine aw_igen rfl (fun c8 => by omega) (fun c8 => ?_)
          refine aw rfl rfl ?_
          refine aw_getf rfl mg_121 rfl ?_
          refine aw rfl rfl ?_
          refine aw_ialdE rfl mg_152 rfl (by omega) (by decide) hc ?_
          refine aw_ist (ls' := [_, _, _, _, _, _, _, _]) rfl rfl ?_
          refine aw rfl rfl ?_
          refine aw_c (v := nI 2) rfl (by decide) ?_
          refine aw_ige rfl (fun _ => ?_) (fun c => absurd (by decide) c)
          refine aw_decn (c := 1) (ls' := [_, _, _, _, _, _, _, _]) rfl rfl (by decide) (by omega) rfl ?_
          refine aw rfl rfl ?_
          refine aw_getf rfl mg_121 rfl ?_
          refine aw rfl rfl ?_
          refine aw_c (v := nI 1) rfl (by decide) ?_
          refine aw_subn rfl (by omega) ?_
          refine aw_ialdE (k := r.length) rfl mg_156 rfl (by omega) (by decide) hx ?_
          refine aw_ist (ls' := [_, _, _, _, _, _, _, _]) rfl rfl ?_
          refine aw rfl rfl ?_
          refine aw_getf rfl mg_121 rfl ?_
          refine aw rfl rfl ?_
          refine aw_ialdE (k := r.length + 1) rfl mg_156 rfl (by omega) (by decide) hb ?_
          refine aw_ist (ls' := [_, _, _, _, _, _, _, _]) rfl rfl ?_
          refine aw rfl rfl ?_
          refine aw_c (v := nI 5) rfl (by decide) ?_
          refine aw_ine rfl (fun c => absurd (by decide) c) (fun _ => ?_)
          refine aw rfl rfl ?_
          refine aw_ne rfl (fun c94 => ?_) (fun c94 => ?_)
          · refine aw rfl rfl ?_
            refine aw_getf rfl mg_121 rfl ?_
            refine aw rfl rfl ?_
            refine aw_c (v := nI 1) rfl (by decide) ?_
            refine aw_subn rfl (by omega) ?_
            refine aw rfl rfl ?_
            refine aw_c (v := nI 2) rfl (by decide) ?_
            refine aw_ine rfl (fun _ => ?_) (fun c => absurd c (by decide))
            refine aw rfl rfl ?_
            refine aw_c (v := nI 3) rfl (by decide) ?_
            refine aw_ine rfl (fun _ => ?_) (fun c => absurd c (by decide))
            refine aw rfl rfl ?_
            refine aw_c (v := nI 4) rfl (by decide) ?_
            refine aw_ine rfl (fun _ => ?_) (fun c => absurd c (by decide))
            refine aw rfl rfl ?_
            refine aw rfl rfl ?_
            refine aw_idiv rfl c94 ?_
            refine aw_iastU (k := r.length) rfl mg_156 rfl (by omega) (by decide) (by decide) mu_156 ?_
            refine aw_incn (c := 1) (ls' := [_, _, _, _, _, _, _, _]) rfl rfl (by decide) rfl ?_
            refine aw rfl rfl ?_
            exact ih' _ _ _ _ _ (hpu _) (fun p x z => q1 p x ((qe c94).trans z)) (fun p z => q0 p ((qe c94).trans z))
          · refine aw rfl rfl ?_
            refine aw_c (v := nI 1) rfl (by decide) ?_
            refine aw_putfU rfl mg_121 rfl rfl (by decide) mp_52 ?_
            refine aw_c (v := nI 0) rfl (by decide) ?_
            exact aw_iret rfl rfl (q0 _ (qz c94))
        omega
theorem c_X11_termOf {Q : Option Value → am_H → Prop} {a : Nat} {e : Ex} (hin : ex_in (k.2.1 46) (k.2.1 47) a e) (hwf : ex_wf e 0) (hl : a + e.length ≤ 840) (q1 : ∀ pl x, ex_val v e [] = some x → Q (some (.int x)) (mh g k v pl br lo c ct pr pt cm bf bt)) (q0 : ∀ pl, ex_val v e [] = none → Q (some (.int (nI 0))) (mh g k v pl (nI 1) lo c ct pr pt cm bf bt)) : AC am_P 0 0 234 [.ref 121, .int (nI a), .int (nI (a + e.length))] (mh g k v pl br lo c ct pr pt cm bf bt) Q := by
  refine AC.of (ls := [_, _, _, _, _, _, _, _]) rfl ?_
  refine aw_c (v := nI 0) rfl (by decide) ?_
  refine aw_ist (ls' := [_, _, _, _, _, _, _, _]) rfl rfl ?_
  refine aw rfl rfl ?_
  refine aw_ist (ls' := [_, _, _, _, _, _, _, _]) rfl rfl ?_
  exact l_termOf e a [] pl _ _ _ hin hwf trivial (by decide) hl q1 q0
end M1
