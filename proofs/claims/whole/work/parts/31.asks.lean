/-- a law: what is tested, what it is then *-/
abbrev Lw : Type := List (Option (Ex × Ex) × Ex)
def lw_2 (x y : Option Int32) (f : Int32 → Int32 → Int32) : Int32 := match x, y with
  | some x, some y => f x y
  | _, _ => nI 0
def lw_1 (x : Option Int32) : Int32 := match x with
  | some x => x
  | none => nI 0
def lw_val (v : Nat → Int32) : Lw → Int32
  | [] => nI 0
  | (none, e) :: _ => lw_1 (ex_val v e [])
  | (some w, e) :: t => lw_2 (ex_val v w.1 []) (ex_val v w.2 []) fun x y => if x < y then lw_1 (ex_val v e []) else lw_val v t
def lw_in (k : Mk) : Nat → Lw → Prop
  | _, [] => True
  | b, (none, e) :: t => k.2.1 40 b = nI 0 ∧ (∃ p : Nat, k.2.1 43 b = nI p ∧ k.2.1 44 b = nI (p + e.length) ∧ ex_in (k.2.1 46) (k.2.1 47) p e ∧ p + e.length ≤ 840) ∧ ex_wf e 0 ∧ lw_in k (b + 1) t
  | b, (some w, e) :: t => k.2.1 40 b = nI 1 ∧ (∃ p : Nat, k.2.1 41 b = nI p ∧ k.2.1 42 b = nI (p + w.1.length) ∧ k.2.1 43 b = nI (p + w.1.length + w.2.length) ∧ k.2.1 44 b = nI (p + w.1.length + w.2.length + e.length) ∧ ex_in (k.2.1 46) (k.2.1 47) p w.1 ∧ ex_in (k.2.1 46) (k.2.1 47) (p + w.1.length) w.2 ∧ ex_in (k.2.1 46) (k.2.1 47) (p + w.1.length + w.2.length) e ∧ p + w.1.length + w.2.length + e.length ≤ 840) ∧ ex_wf w.1 0 ∧ ex_wf w.2 0 ∧ ex_wf e 0 ∧ lw_in k (b + 1) t
section M1
variable {g : am_H} {k : Mk} {v pl : Nat → Int32} {br lo : Int32} {c ct pr pt cm bf bt : Nat → Int32}
theorem l_asks {Q : Option Value → am_H → Prop} {lv i : Nat} (hlv : lv < 2) (hi : i < 3) {l1 : Option Value} : ∀ (w : Lw) (b : Nat) (pl : Nat → Int32) (l4 l5 : Option Value) (_ : k.2.1 38 (3 * lv + i) = nI (b + w.length)) (_ : lw_in k b w) (_ : b + w.length ≤ 260) (_ : ∀ pl br, Q (some (.int (lw_val v w))) (mh g k v pl br lo c ct pr pt cm bf bt)), AW am_P 1 27 233 21 [some (.ref 121), l1, some (.int (nI (3 * lv + i))), some (.int (nI b)), l4, l5] [] (mh g k v pl (nI 0) lo c ct pr pt cm bf bt) Q := by
  intro w
  induction w with
  | nil =>
    intro b pl l4 l5 hL hin hb q
    have hb2 : b ≤ 260 := hb
    have hL2 : k.2.1 38 (3 * lv + i) = nI b := hL
    refine aw rfl rfl ?_
    refine aw rfl rfl ?_
    refine aw_getf rfl mg_121 rfl ?_
    refine aw rfl rfl ?_
    refine aw_ialdE rfl mg_146 rfl (by omega) (by decide) hL2 ?_
    refine aw_igen rfl (fun c28 => ?_) (fun c28 => absurd (Nat.le_refl b) c28)
    refine aw_c (v := nI 0) rfl (by decide) ?_
    exact aw_iret rfl rfl (q _ _)
  | cons z t ih =>
    obtain ⟨w, e⟩ := z
    intro b pl l4 l5 hL hin hb q
    have hlen : ((w, e) :: t).length = t.length + 1 := rfl
    rw [hlen] at hL hb
    have hL1 : k.2.1 38 (3 * lv + i) = nI (b + 1 + t.length) := by rw [hL]; congr 1; omega
    cases w with
    | none =>
      obtain ⟨ht, ⟨p, h43, h44, he, hp⟩, hwf, hin⟩ := hin
      have qv : lw_val v ((none, e) :: t) = lw_1 (ex_val v e []) := rfl
      rw [qv] at q
      refine aw rfl rfl ?_
      refine aw rfl rfl ?_
      refine aw_getf rfl mg_121 rfl ?_
      refine aw rfl rfl ?_
      refine aw_ialdE rfl mg_146 rfl (by omega) (by decide) hL ?_
      refine aw_igen rfl (fun c28 => by omega) (fun c28 => ?_)
      refine aw rfl rfl ?_
      refine aw_getf rfl mg_121 rfl ?_
      refine aw rfl rfl ?_
      refine aw_bald rfl mg_147 rfl (by omega) (by decide) ?_
      rw [ht]
      refine aw_eq rfl (fun _ => ?_) (fun c => absurd (by decide) c)
      refine aw rfl rfl ?_
      refine aw rfl rfl ?_
      refine aw_getf rfl mg_121 rfl ?_
      refine aw rfl rfl ?_
      refine aw_ialdE rfl mg_150 rfl (by omega) (by decide) h43 ?_
      refine aw rfl rfl ?_
      refine aw_getf rfl mg_121 rfl ?_
      refine aw rfl rfl ?_
      refine aw_ialdE rfl mg_151 rfl (by omega) (by decide) h44 ?_
      refine aw_cv (d1 := 0) (L1 := 0) rfl rfl mg_121 rfl rfl (by decide) (by decide) (Nat.le_of_ble_eq_true rfl) (c_X11_termOf he hwf (by omega) (fun pl x z3 => ?_) (fun pl z3 => ?_))
      · refine aw_ist (ls' := [_, _, _, _, _, _]) rfl rfl ?_
        refine aw rfl rfl ?_
        refine aw_getf rfl mg_121 rfl ?_
        refine aw_eq rfl (fun _ => ?_) (fun c => absurd (by decide) c)
        refine aw rfl rfl ?_
        exact aw_iret rfl rfl (by rw [z3] at q; exact q _ _)
      · refine aw_ist (ls' := [_, _, _, _, _, _]) rfl rfl ?_
        refine aw rfl rfl ?_
        refine aw_getf rfl mg_121 rfl ?_
        refine aw_eq rfl (fun c => absurd c (by decide)) (fun _ => ?_)
        refine aw_c (v := nI 0) rfl (by decide) ?_
        refine aw rfl rfl ?_
        exact aw_iret rfl rfl (by rw [z3] at q; exact q _ _)
    | some w =>
      obtain ⟨e1, e2⟩ := w
      obtain ⟨ht, ⟨p, h41, h42, h43, h44, he1, he2, he, hp⟩, hwf1, hwf2, hwf, hin⟩ := hin
      have hp : p + e1.length + e2.length + e.length ≤ 840 := hp
      have qv : lw_val v ((some (e1, e2), e) :: t) = lw_2 (ex_val v e1 []) (ex_val v e2 []) fun x y => if x < y then lw_1 (ex_val v e []) else lw_val v t := rfl
      rw [qv] at q
      refine aw rfl rfl ?_
      refine aw rfl rfl ?_
      refine aw_getf rfl mg_121 rfl ?_
      refine aw rfl rfl ?_
      refine aw_ialdE rfl mg_146 rfl (by omega) (by decide) hL ?_
      refine aw_igen rfl (fun c28 => by omega) (fun c28 => ?_)
      refine aw rfl rfl ?_
      refine aw_getf rfl mg_121 rfl ?_
      refine aw rfl rfl ?_
      refine aw_bald rfl mg_147 rfl (by omega) (by decide) ?_
      rw [ht]
      refine aw_eq rfl (fun c => absurd c (by decide)) (fun _ => ?_)
      refine aw rfl rfl ?_
      refine aw rfl rfl ?_
      refine aw_getf rfl mg_121 rfl ?_
      refine aw rfl rfl ?_
      refine aw_ialdE rfl mg_148 rfl (by omega) (by decide) h41 ?_
      refine aw rfl rfl ?_
      refine aw_getf rfl mg_121 rfl ?_
      refine aw rfl rfl ?_
      refine aw_ialdE rfl mg_149 rfl (by omega) (by decide) h42 ?_
      refine aw_cv (d1 := 0) (L1 := 0) rfl rfl mg_121 rfl rfl (by decide) (by decide) (Nat.le_of_ble_eq_true rfl) (c_X11_termOf he1 hwf1 (by omega) (fun pl x z1 => ?_) (fun pl z1 => ?_))
      · refine aw_ist (ls' := [_, _, _, _, _, _]) rfl rfl ?_
        refine aw rfl rfl ?_
        refine aw rfl rfl ?_
        refine aw_getf rfl mg_121 rfl ?_
        refine aw rfl rfl ?_
        refine aw_ialdE rfl mg_149 rfl (by omega) (by decide) h42 ?_
        refine aw rfl rfl ?_
        refine aw_getf rfl mg_121 rfl ?_
        refine aw rfl rfl ?_
        refine aw_ialdE rfl mg_150 rfl (by omega) (by decide) h43 ?_
        refine aw_cv (d1 := 0) (L1 := 0) rfl rfl mg_121 rfl rfl (by decide) (by decide) (Nat.le_of_ble_eq_true rfl) (c_X11_termOf he2 hwf2 (by omega) (fun pl x z2 => ?_) (fun pl z2 => ?_))
        · refine aw_ist (ls' := [_, _, _, _, _, _]) rfl rfl ?_
          refine aw rfl rfl ?_
          refine aw_getf rfl mg_121 rfl ?_
          refine aw_eq rfl (fun _ => ?_) (fun c => absurd (by decide) c)
          refine aw rfl rfl ?_
          refine aw rfl rfl ?_
          refine aw_ilt rfl (fun c89 => ?_) (fun c89 => ?_)
          · refine aw rfl rfl ?_
            refine aw rfl rfl ?_
            refine aw_getf rfl mg_121 rfl ?_
            refine aw rfl rfl ?_
            refine aw_ialdE rfl mg_150 rfl (by omega) (by decide) h43 ?_
            refine aw rfl rfl ?_
            refine aw_getf rfl mg_121 rfl ?_
            refine aw rfl rfl ?_
            refine aw_ialdE rfl mg_151 rfl (by omega) (by decide) h44 ?_
            refine aw_cv (d1 := 0) (L1 := 0) rfl rfl mg_121 rfl rfl (by decide) (by decide) (Nat.le_of_ble_eq_true rfl) (c_X11_termOf he hwf (by omega) (fun pl x z3 => ?_) (fun pl z3 => ?_))
            · refine aw_ist (ls' := [_, _, _, _, _, _]) rfl rfl ?_
              refine aw rfl rfl ?_
              refine aw_getf rfl mg_121 rfl ?_
              refine aw_eq rfl (fun _ => ?_) (fun c => absurd (by decide) c)
              refine aw rfl rfl ?_
              exact aw_iret rfl rfl (by rw [z1, z2] at q; exact Eq.mp (congrArg (fun y => Q (some (.int y)) _) (by show (if _ < _ then _ else _) = _; rw [if_pos c89, z3]; rfl)) (q _ _))
            · refine aw_ist (ls' := [_, _, _, _, _, _]) rfl rfl ?_
              refine aw rfl rfl ?_
              refine aw_getf rfl mg_121 rfl ?_
              refine aw_eq rfl (fun c => absurd c (by decide)) (fun _ => ?_)
              refine aw_c (v := nI 0) rfl (by decide) ?_
              refine aw rfl rfl ?_
              exact aw_iret rfl rfl (by rw [z1, z2] at q; exact Eq.mp (congrArg (fun y => Q (some (.int y)) _) (by show (if _ < _ then _ else _) = _; rw [if_pos c89, z3]; rfl)) (q _ _))
          · refine aw rfl rfl ?_
            refine aw_incn (c := 1) (ls' := [_, _, _, _, _, _]) rfl rfl (by decide) rfl ?_
            refine aw rfl rfl ?_
            exact ih (b + 1) _ _ _ hL1 hin (by omega) (fun pl br => by
              have q := q pl br
              rw [z1, z2] at q
              exact Eq.mp (congrArg (fun y => Q (some (.int y)) _) (by show (if _ < _ then _ else _) = _; rw [if_neg c89])) q)
        · refine aw_ist (ls' := [_, _, _, _, _, _]) rfl rfl ?_
          refine aw rfl rfl ?_
          refine aw_getf rfl mg_121 rfl ?_
          refine aw_eq rfl (fun c => absurd c (by decide)) (fun _ => ?_)
          refine aw_c (v := nI 0) rfl (by decide) ?_
          exact aw_iret rfl rfl (by rw [z1, z2] at q; exact q _ _)
      · refine aw_ist (ls' := [_, _, _, _, _, _]) rfl rfl ?_
        refine aw rfl rfl ?_
        refine aw rfl rfl ?_
        refine aw_getf rfl mg_121 rfl ?_
        refine aw rfl rfl ?_
        refine aw_ialdE rfl mg_149 rfl (by omega) (by decide) h42 ?_
        refine aw rfl rfl ?_
        refine aw_getf rfl mg_121 rfl ?_
        refine aw rfl rfl ?_
        refine aw_ialdE rfl mg_150 rfl (by omega) (by decide) h43 ?_
        refine aw_cv (d1 := 0) (L1 := 0) rfl rfl mg_121 rfl rfl (by decide) (by decide) (Nat.le_of_ble_eq_true rfl) (c_X11_termOf he2 hwf2 (by omega) (fun pl x z2 => ?_) (fun pl z2 => ?_))
        · refine aw_ist (ls' := [_, _, _, _, _, _]) rfl rfl ?_
          refine aw rfl rfl ?_
          refine aw_getf rfl mg_121 rfl ?_
          refine aw_eq rfl (fun c => absurd c (by decide)) (fun _ => ?_)
          refine aw_c (v := nI 0) rfl (by decide) ?_
          exact aw_iret rfl rfl (by rw [z1, z2] at q; exact q _ _)
        · refine aw_ist (ls' := [_, _, _, _, _, _]) rfl rfl ?_
          refine aw rfl rfl ?_
          refine aw_getf rfl mg_121 rfl ?_
          refine aw_eq rfl (fun c => absurd c (by decide)) (fun _ => ?_)
          refine aw_c (v := nI 0) rfl (by decide) ?_
          exact aw_iret rfl rfl (by rw [z1, z2] at q; exact q _ _)
theorem c_X11_asks {Q : Option Value → am_H → Prop} {lv i b : Nat} {w : Lw} (hl : k.1 18 = nI lv) (hlv : lv < 2) (hi : i < 3) (hF : k.2.1 37 (3 * lv + i) = nI b) (hL : k.2.1 38 (3 * lv + i) = nI (b + w.length)) (hin : lw_in k b w) (hb : b + w.length ≤ 260) (q : ∀ pl br, Q (some (.int (lw_val v w))) (mh g k v pl br lo c ct pr pt cm bf bt)) : AC am_P 1 27 233 [.ref 121, .int (nI i)] (mh g k v pl br lo c ct pr pt cm bf bt) Q := by
  refine AC.of (ls := [_, _, _, _, _, _]) rfl ?_
  refine aw_c (v := nI 3) rfl (by decide) ?_
  refine aw rfl rfl ?_
  refine aw_getfE rfl mg_121 rfl (congrArg Value.int hl) ?_
  refine aw_muln rfl ?_
  refine aw rfl rfl ?_
  refine aw_addn rfl ?_
  refine aw_ist (ls' := [_, _, _, _, _, _]) rfl rfl ?_
  refine aw rfl rfl ?_
  refine aw_c (v := nI 0) rfl (by decide) ?_
  refine aw_putfU rfl mg_121 rfl rfl (by decide) mp_52 ?_
  refine aw rfl rfl ?_
  refine aw_getf rfl mg_121 rfl ?_
  refine aw rfl rfl ?_
  refine aw_ialdE rfl mg_145 rfl (by omega) (by decide) hF ?_
  refine aw_ist (ls' := [_, _, _, _, _, _]) rfl rfl ?_
  exact l_asks hlv hi w b pl _ _ hL hin hb q
end M1
