/-! ===== the reference: kick, waits, touch, brings ===== -/
def psU (u : Nat) : Nat := if u = 50 then 50 else u + 1
def psP (u : Nat) (P : Nat → Nat → Nat) (S : Nat → Nat) : Nat → Nat → Nat := fun i => if u = 50 then (if i = 49 then S else P (i + 1)) else if i = u then S else P i
/-- lost for good -/
def mvL (S : Nat → Nat) : Nat → Nat := fun j => if j = 4 then S 4 + 1 else if j = 6 then 2 else S j
/-- it lies on m, with so many lives, b: one less than ahead -/
def mvM (T : Sd) (S : Nat → Nat) (m w : Nat) (b : Bool) : Nat → Nat := fun j => if j = 0 then m / 3 else if j = 1 then m % 3 else if j = 2 then w else if j = 3 then S 3 + (bif b then 1 else 0) else if j = 4 then S 4 + 1 else if j = 6 then (bif hm T m then 1 else 0) else S j
def mvT (T : Sd) (S : Nat → Nat) (s : Nat) : Nat → Nat := fun j => if j = 0 then s else if j = 5 then S 5 + 1 else if j = 6 then (bif hm T (s * 3 + S 1) then 1 else 0) else S j
def lnd (T : Sd) (LW : LWt) (S : Nat → Nat) (way : Nat) : Int32 := n_land T LW (S 0 * 3 + S 1) way (nI (S 4 * T.1 5))
def mvS (T : Sd) (LW : LWt) (S : Nat → Nat) (way : Nat) : Nat → Nat := if lnd T LW S way = -1 then (if S 2 = 0 then mvL S else mvM T S (S 0 * 3 + S 1) (S 2 - 1) true) else mvM T S (lnd T LW S way).toNatClampNeg (S 2) false
def mvA (T : Sd) (LW : LWt) (S : Nat → Nat) (way : Nat) : Int32 := if lnd T LW S way = -1 then (if S 2 = 0 then nI 2 else nI 3) else (bif hm T (lnd T LW S way).toNatClampNeg then nI 1 else nI 0)
/-- the first with which the sixths so far are more -/
def drO (f : Nat → Nat) (x : Nat) : Nat → Nat → Nat
  | 0, _ => 0
  | m + 1, o => if x < sm f (o + 1) then o else drO f x m (o + 1)
def lot (T : Sd) (S : Nat → Nat) : Nat := (n_lot (nI (T.1 6)) (nI (S 4))).toNatClampNeg
def drw (T : Sd) (S : Nat → Nat) (j : Nat) : Nat := drO (fun o => sx T (6 * j + o)) (lot T S) (oc T j) 0
theorem nI_self (x : Int32) : x = nI x.toBitVec.toNat := by
  apply Int32.toBitVec_inj.mp
  show x.toBitVec = BitVec.ofNat 32 x.toBitVec.toNat
  exact BitVec.eq_of_toNat_eq (by simp)
theorem n_lot_lt (a b : Int32) : ∃ r, r < 6 ∧ n_lot a b = nI r := by
  unfold n_lot
  have hb := (n_mix (n_mix a (nI 55)) b).toBitVec.isLt
  rw [nI_self (n_mix (n_mix a (nI 55)) b), pk_ushrN (by omega) (nI 1) 1 (by decide), pk_rem (by omega) (by decide) (by decide)]
  exact ⟨_, Nat.mod_lt _ (by decide), rfl⟩
theorem lot_eq (T : Sd) (S : Nat → Nat) : lot T S < 6 ∧ n_lot (nI (T.1 6)) (nI (S 4)) = nI (lot T S) := by
  obtain ⟨r, h1, h2⟩ := n_lot_lt (nI (T.1 6)) (nI (S 4))
  have e : lot T S = r := by unfold lot; rw [h2, nI_clamp (by omega)]
  rw [e]
  exact ⟨h1, h2⟩
theorem SC.lost {T : Sd} {S : Nat → Nat} {c : Nat} (h : SC T c S) (hc : c < 1000) : SC T (c + 1) (mvL S) := by
  obtain ⟨⟨s0, s1, s2, s3, s4, s5, s6⟩, h4, h5, h6⟩ := h
  exact ⟨⟨s0, s1, s2, by show S 4 + 1 ≤ 1000; omega, s4, s5, Or.inl rfl⟩, by show S 4 + 1 ≤ _; omega, by show S 5 ≤ _; omega, h6⟩
theorem SC.move {T : Sd} {S : Nat → Nat} {c m w : Nat} {b : Bool} (h : SC T c S) (hc : c < 1000) (hm9 : lieOK T m) (hw : w + (bif b then 1 else 0) = S 2) (h4x : T.1 4 ≤ 2) : SC T (c + 1) (mvM T S m w b) := by
  obtain ⟨⟨s0, s1, s2, s3, s4, s5, s6⟩, h4, h5, h6⟩ := h
  refine ⟨⟨?_, by show m % 3 < 3; omega, ?_, by show S 4 + 1 ≤ 1000; omega, s4, ?_, ?_⟩, by show S 4 + 1 ≤ _; omega, by show S 5 ≤ _; omega, ?_⟩
  · show lieOK T (m / 3 * 3 + m % 3); rw [show m / 3 * 3 + m % 3 = m by omega]; exact hm9
  · show w ≤ _; omega
  · show S 3 + (bif b then 1 else 0) ≤ 2; omega
  · show (bif hm T m then 1 else 0) = 2 ∨ (hm T (m / 3 * 3 + m % 3) = true ∧ _) ∨ _
    rw [show m / 3 * 3 + m % 3 = m by omega]
    show _ ∨ (_ ∧ (bif hm T m then 1 else 0) = 1) ∨ (hm T (m / 3 * 3 + m % 3) = false ∧ (bif hm T m then 1 else 0) = 0)
    rw [show m / 3 * 3 + m % 3 = m by omega]
    cases e : hm T m with
    | true => exact Or.inr (Or.inl ⟨rfl, rfl⟩)
    | false => exact Or.inr (Or.inr ⟨rfl, rfl⟩)
  · show w + (S 3 + (bif b then 1 else 0)) ≤ _; omega
theorem SC.touch {T : Sd} {S : Nat → Nat} {c s : Nat} (h : SC T c S) (hc : c < 1000) (hs : lieOK T (s * 3 + S 1)) : SC T (c + 1) (mvT T S s) := by
  obtain ⟨⟨s0, s1, s2, s3, s4, s5, s6⟩, h4, h5, h6⟩ := h
  refine ⟨⟨hs, s1, s2, s3, by show S 5 + 1 ≤ 1000; omega, s5, ?_⟩, by show S 4 ≤ _; omega, by show S 5 + 1 ≤ _; omega, h6⟩
  show _ ∨ (hm T (s * 3 + S 1) = true ∧ (bif hm T (s * 3 + S 1) then 1 else 0) = 1) ∨ (hm T (s * 3 + S 1) = false ∧ (bif hm T (s * 3 + S 1) then 1 else 0) = 0)
  cases e : hm T (s * 3 + S 1) with
  | true => exact Or.inr (Or.inl ⟨rfl, rfl⟩)
  | false => exact Or.inr (Or.inr ⟨rfl, rfl⟩)
theorem HR.mono {T : Sd} {k : Mk} {c c' u : Nat} {P : Nat → Nat → Nat} (h : HR T k c u P) (hc : c ≤ c') : HR T k c' u P := ⟨h.1, h.2.1, fun i hi => ⟨(h.2.2 i hi).1, (h.2.2 i hi).2.mono hc⟩⟩
theorem SLR.mono {T : Sd} {k : Mk} {c c' : Nat} {hd : Nat → Bool} {Z : Nat → Nat → Nat} (h : SLR T k c hd Z) (hc : c ≤ c') : SLR T k c' hd Z := fun s hs => ⟨(h s hs).1, fun h1 => ⟨((h s hs).2 h1).1, ((h s hs).2 h1).2.mono hc⟩⟩
section M1
variable {g : am_H} {k : Mk} {v pl : Nat → Int32} {br lo : Int32} {c ct pr pt cm bf bt : Nat → Int32}
variable {lv : Nat} {T : Sd} {W : Nat → Lw}
variable {S : Nat → Nat} {u td nt cc : Nat} {P Z : Nat → Nat → Nat} {TD : Nat → Nat} {hd : Nat → Bool} {tp : Nat → Int32} {pc : Int32}
theorem c_isHm {Q : Option Value → am_H → Prop} (hM : MR k lv T W) (hG : GS T) {m w : Nat} (hl : lieOK T m) (hw : w < 4) {f : Nat → Int32} (q1 : hm T m = true → Q (some (.int (nI 1))) (mh g (k.1, va_up k.2.1 54 f, k.2.2) v pl br lo c ct pr pt cm bf bt)) (q0 : hm T m = false → Q (some (.int (nI 0))) (mh g (k.1, va_up k.2.1 54 f, k.2.2) v pl br lo c ct pr pt cm bf bt)) : AC am_P 2 43 223 [.ref 121, .int (nI (4 * m + w))] (mh g (k.1, va_up k.2.1 54 f, k.2.2) v pl br lo c ct pr pt cm bf bt) Q := by
  have h24 := hM.2.2.2.2.2.2.2.2.2.1 (m / 3 % 8) (m / 3 / 8) hl.2.1 hl.2.2.1
  rw [show m / 3 / 8 * 8 + m / 3 % 8 = m / 3 by omega] at h24
  have hl96 := hl.1
  refine c_X11_isHome (lv := lv) (k := (k.1, va_up k.2.1 54 f, k.2.2)) hM.2.1 hM.1 (by omega) hw (fun _ z => q1 (decide_eq_true ?_)) (fun z => q0 (decide_eq_false ?_)) (by omega)
  · rw [← h24]; exact z
  · rw [← h24]; exact z hl96
theorem c_X11_copies {Q : Option Value → am_H → Prop} (q : ∀ f, (∀ j, j < 10 → f j = k.2.1 53 j) → Q none (mh g (k.1, va_up k.2.1 54 f, k.2.2) v pl br lo c ct pr pt cm bf bt)) : AC am_P 0 0 244 [.ref 121] (mh g k v pl br lo c ct pr pt cm bf bt) Q := by
  refine AC.of (ls := [_, _]) rfl ?_
  refine aw_c (v := nI 0) rfl (by decide) ?_
  refine aw_ist (ls' := [_, _]) rfl rfl ?_
  refine (show AW am_P 0 0 244 2 [some (.ref 121), some (.int (nI 0))] [] (mh g (k.1, va_up k.2.1 54 (k.2.1 54), k.2.2) v pl br lo c ct pr pt cm bf bt) Q → _ from fun z => by rw [va_self0] at z; exact z) ?_
  refine aw_loop (α := Nat → Int32) (ll := fun z y => [some (.ref 121), some (.int (nI z))]) (hh := fun z y => mh g (k.1, va_up k.2.1 54 y, k.2.2) v pl br lo c ct pr pt cm bf bt) (I := fun z y => ∀ j, j < z → y j = k.2.1 53 j) (N := 10) (fun z y hz hIz ihz => ?_) (fun y hIz => ?_) 0 (k.2.1 54) (Nat.zero_le _) (fun j hj => absurd hj (Nat.not_lt_zero _))
  · skip
    refine aw rfl rfl ?_
    refine aw_c (v := nI 10) rfl (by decide) ?_
    refine aw_igen rfl (fun c5 => by omega) (fun c5 => ?_)
    refine aw rfl rfl ?_
    refine aw_getf rfl mg_121 rfl ?_
    refine aw rfl rfl ?_
    refine aw rfl rfl ?_
    refine aw_getf rfl mg_121 rfl ?_
    refine aw rfl rfl ?_
    refine aw_iald rfl mg_157 rfl (by omega) (by decide) ?_
    refine aw_iastU rfl mg_158 rfl (by omega) (by decide) (by decide) mu_158 ?_
    refine aw_incn (c := 1) (ls' := [_, _]) rfl rfl (by decide) rfl ?_
    refine aw rfl rfl ?_
    exact ihz (upd y z (k.2.1 53 z)) (fun j hj => by
      by_cases e : j = z
      · subst e; exact upd_at
      · exact (upd_ne e).trans (hIz j (by omega)))
  · skip
    refine aw rfl rfl ?_
    refine aw_c (v := nI 10) rfl (by decide) ?_
    refine aw_ige rfl (fun _ => ?_) (fun c => absurd (by decide) c)
    exact aw_vret rfl rfl (q _ hIz)
theorem c_X11_keepsRow {Q : Option Value → am_H → Prop} (q : ∀ f, (∀ j, j < 10 → f j = k.2.1 54 j) → Q none (mh g (k.1, va_up k.2.1 53 f, k.2.2) v pl br lo c ct pr pt cm bf bt)) : AC am_P 0 0 190 [.ref 121] (mh g k v pl br lo c ct pr pt cm bf bt) Q := by
  refine AC.of (ls := [_, _]) rfl ?_
  refine aw_c (v := nI 0) rfl (by decide) ?_
  refine aw_ist (ls' := [_, _]) rfl rfl ?_
  refine (show AW am_P 0 0 190 2 [some (.ref 121), some (.int (nI 0))] [] (mh g (k.1, va_up k.2.1 53 (k.2.1 53), k.2.2) v pl br lo c ct pr pt cm bf bt) Q → _ from fun z => by rw [va_self0] at z; exact z) ?_
  refine aw_loop (α := Nat → Int32) (ll := fun z y => [some (.ref 121), some (.int (nI z))]) (hh := fun z y => mh g (k.1, va_up k.2.1 53 y, k.2.2) v pl br lo c ct pr pt cm bf bt) (I := fun z y => ∀ j, j < z → y j = k.2.1 54 j) (N := 10) (fun z y hz hIz ihz => ?_) (fun y hIz => ?_) 0 (k.2.1 53) (Nat.zero_le _) (fun j hj => absurd hj (Nat.not_lt_zero _))
  · skip
    refine aw rfl rfl ?_
    refine aw_c (v := nI 10) rfl (by decide) ?_
    refine aw_igen rfl (fun c5 => by omega) (fun c5 => ?_)
    refine aw rfl rfl ?_
    refine aw_getf rfl mg_121 rfl ?_
    refine aw rfl rfl ?_
    refine aw rfl rfl ?_
    refine aw_getf rfl mg_121 rfl ?_
    refine aw rfl rfl ?_
    refine aw_iald rfl mg_158 rfl (by omega) (by decide) ?_
    refine aw_iastU rfl mg_157 rfl (by omega) (by decide) (by decide) mu_157 ?_
    refine aw_incn (c := 1) (ls' := [_, _]) rfl rfl (by decide) rfl ?_
    refine aw rfl rfl ?_
    exact ihz (upd y z (k.2.1 54 z)) (fun j hj => by
      by_cases e : j = z
      · subst e; exact upd_at
      · exact (upd_ne e).trans (hIz j (by omega)))
  · skip
    refine aw rfl rfl ?_
    refine aw_c (v := nI 10) rfl (by decide) ?_
    refine aw_ige rfl (fun _ => ?_) (fun c => absurd (by decide) c)
    exact aw_vret rfl rfl (q _ hIz)
theorem c_X11_keeps {Q : Option Value → am_H → Prop} (hH : HR T k cc u P) (hN : NR T (k.2.1 53) S) (hSC : SC T cc S) (q : ∀ k', KS k k' [58] [59, 53] → HR T k' cc (psU u) (psP u P S) → (∀ j, j < 10 → k'.2.1 53 j = k.2.1 54 j) → Q none (mh g k' v pl br lo c ct pr pt cm bf bt)) : AC am_P 1 21 245 [.ref 121] (mh g k v pl br lo c ct pr pt cm bf bt) Q := by
  refine AC.of (ls := [_, _]) rfl ?_
  obtain ⟨u0, u58, uin⟩ := hH
  refine aw rfl rfl ?_
  refine aw_getfE rfl mg_121 rfl (congrArg Value.int u58) ?_
  refine aw_c (v := nI 50) rfl (by decide) ?_
  refine aw_inen rfl (fun c6 => ?_) (fun c6 => ?_)
  · refine aw_c (v := nI 0) rfl (by decide) ?_
    refine aw_ist (ls' := [_, _]) rfl rfl ?_
    refine (show AW am_P 1 21 245 51 [some (.ref 121), some (.int (nI 0))] [] (mh g (k.1, va_up k.2.1 59 (k.2.1 59), k.2.2) v pl br lo c ct pr pt cm bf bt) Q → _ from fun z => by rw [va_self0] at z; exact z) ?_
    refine aw_loop (α := Nat → Int32) (ll := fun z y => [some (.ref 121), some (.int (nI z))]) (hh := fun z y => mh g (k.1, va_up k.2.1 59 y, k.2.2) v pl br lo c ct pr pt cm bf bt) (I := fun z y => (∀ j, j < z → y (10 * u + j) = k.2.1 53 j) ∧ ∀ n, (n < 10 * u ∨ 10 * u + 10 ≤ n) → y n = (k.2.1 59) n) (N := 10) (fun z y hz hIz ihz => ?_) (fun y hIz => ?_) 0 (k.2.1 59) (Nat.zero_le _) ⟨fun j hj => absurd hj (Nat.not_lt_zero _), fun _ _ => rfl⟩
    · skip
      refine aw rfl rfl ?_
      refine aw_c (v := nI 10) rfl (by decide) ?_
      refine aw_igen rfl (fun c54 => by omega) (fun c54 => ?_)
      refine aw rfl rfl ?_
      refine aw_getf rfl mg_121 rfl ?_
      refine aw_c (v := nI 10) rfl (by decide) ?_
      refine aw rfl rfl ?_
      refine aw_getfE rfl mg_121 rfl (congrArg Value.int u58) ?_
      refine aw_muln rfl ?_
      refine aw rfl rfl ?_
      refine aw_addn rfl ?_
      refine aw rfl rfl ?_
      refine aw_getf rfl mg_121 rfl ?_
      refine aw rfl rfl ?_
      refine aw_iald rfl mg_157 rfl (by omega) (by decide) ?_
      refine aw_iastU rfl mg_161 rfl (by omega) (by decide) (by decide) mu_161 ?_
      refine aw_incn (c := 1) (ls' := [_, _]) rfl rfl (by decide) rfl ?_
      refine aw rfl rfl ?_
      exact ihz (upd y (10 * u + z) (k.2.1 53 z)) ⟨fun j hj => by
        by_cases e : j = z
        · subst e; exact upd_at
        · exact (upd_ne (by omega)).trans (hIz.1 j (by omega)), fun n hn => (upd_ne (by omega)).trans (hIz.2 n hn)⟩
    · skip
      refine aw rfl rfl ?_
      refine aw_c (v := nI 10) rfl (by decide) ?_
      refine aw_ige rfl (fun _ => ?_) (fun c => absurd (by decide) c)
      refine aw rfl rfl ?_
      refine aw rfl rfl ?_
      refine aw_getfE rfl mg_121 rfl (congrArg Value.int u58) ?_
      refine aw_c (v := nI 1) rfl (by decide) ?_
      refine aw_addn rfl ?_
      refine aw_putfU rfl mg_121 rfl rfl (by decide) mp_58 ?_
      refine aw rfl rfl ?_
      refine aw_cv (d1 := 0) (L1 := 0) rfl rfl mg_121 rfl rfl (by decide) (by decide) (Nat.le_of_ble_eq_true rfl) (c_X11_keepsRow (fun f hf => ?_))
      exact aw_vret rfl rfl (by
        refine q _ (((ks2 (k := k) (i := 59) (f := y)).tr (ks1 (i := 58) (x := nI (u + 1)))).tr (ks2 (i := 53) (f := f)) |>.sub (by simp) (by simp)) ⟨by unfold psU; rw [if_neg c6]; omega, by unfold psU; rw [if_neg c6]; rfl, fun i hi => ?_⟩ hf
        unfold psU at hi
        rw [if_neg c6] at hi
        unfold psP
        rw [if_neg c6]
        show NR T (fun j => y (10 * i + j)) _ ∧ _
        by_cases ei : i = u
        · subst ei
          rw [if_pos rfl]
          exact ⟨hN.congr (fun j hj => hIz.1 j hj), hSC⟩
        · rw [if_neg ei]
          exact ⟨(uin i (by omega)).1.congr (fun j hj => hIz.2 _ (by omega)), (uin i (by omega)).2⟩)
  · refine aw_c (v := nI 0) rfl (by decide) ?_
    refine aw_ist (ls' := [_, _]) rfl rfl ?_
    refine (show AW am_P 1 21 245 11 [some (.ref 121), some (.int (nI 0))] [] (mh g (k.1, va_up k.2.1 59 (k.2.1 59), k.2.2) v pl br lo c ct pr pt cm bf bt) Q → _ from fun z => by rw [va_self0] at z; exact z) ?_
    refine aw_loop (α := Nat → Int32) (ll := fun z y => [some (.ref 121), some (.int (nI z))]) (hh := fun z y => mh g (k.1, va_up k.2.1 59 y, k.2.2) v pl br lo c ct pr pt cm bf bt) (I := fun z y => (∀ j, j < z → y j = k.2.1 59 (j + 10)) ∧ ∀ n, z ≤ n → y n = k.2.1 59 n) (N := 490) (fun z y hz hIz ihz => ?_) (fun y hIz => ?_) 0 (k.2.1 59) (Nat.zero_le _) ⟨fun j hj => absurd hj (Nat.not_lt_zero _), fun _ _ => rfl⟩
    · skip
      refine aw rfl rfl ?_
      refine aw_c (v := nI 490) rfl (by decide) ?_
      refine aw_igen rfl (fun c15 => by omega) (fun c15 => ?_)
      refine aw rfl rfl ?_
      refine aw_getf rfl mg_121 rfl ?_
      refine aw rfl rfl ?_
      refine aw rfl rfl ?_
      refine aw_getf rfl mg_121 rfl ?_
      refine aw rfl rfl ?_
      refine aw_c (v := nI 10) rfl (by decide) ?_
      refine aw_addn rfl ?_
      refine aw_iald rfl mg_161 rfl (by omega) (by decide) ?_
      refine aw_iastU rfl mg_161 rfl (by omega) (by decide) (by decide) mu_161 ?_
      refine aw_incn (c := 1) (ls' := [_, _]) rfl rfl (by decide) rfl ?_
      refine aw rfl rfl ?_
      exact ihz (upd y z (y (z + 10))) ⟨fun j hj => by
        by_cases e : j = z
        · subst e; exact upd_at.trans (hIz.2 _ (by omega))
        · exact (upd_ne e).trans (hIz.1 j (by omega)), fun n hn => (upd_ne (by omega)).trans (hIz.2 n (by omega))⟩
    · skip
      refine aw rfl rfl ?_
      refine aw_c (v := nI 490) rfl (by decide) ?_
      refine aw_ige rfl (fun _ => ?_) (fun c => absurd (by decide) c)
      refine aw rfl rfl ?_
      refine aw rfl rfl ?_
      refine aw_getfE rfl mg_121 rfl (congrArg Value.int (u58.trans (congrArg nI c6))) ?_
      refine aw_c (v := nI 1) rfl (by decide) ?_
      refine aw_subn rfl (by omega) ?_
      rw [show 50 - 1 = 49 from rfl]
      refine aw_putfU rfl mg_121 rfl rfl (by decide) mp_58 ?_
      refine aw_c (v := nI 0) rfl (by decide) ?_
      refine aw_ist (ls' := [_, _]) rfl rfl ?_
      refine (show ∀ y0 : Nat → Int32, ((∀ j, j < 490 → y0 j = k.2.1 59 (j + 10)) ∧ ∀ n, 490 ≤ n → y0 n = k.2.1 59 n) → AW am_P 1 21 245 51 [some (.ref 121), some (.int (nI 0))] [] (mh g (va_up k.1 58 (nI 49), va_up k.2.1 59 y0, k.2.2) v pl br lo c ct pr pt cm bf bt) Q from fun y0 hsh => ?_) y hIz
      refine aw_loop (α := Nat → Int32) (ll := fun z y => [some (.ref 121), some (.int (nI z))]) (hh := fun z y => mh g (va_up k.1 58 (nI 49), va_up k.2.1 59 y, k.2.2) v pl br lo c ct pr pt cm bf bt) (I := fun z y => (∀ j, j < z → y (10 * 49 + j) = k.2.1 53 j) ∧ ∀ n, (n < 10 * 49 ∨ 10 * 49 + 10 ≤ n) → y n = y0 n) (N := 10) (fun z y hz hIz ihz => ?_) (fun y hIz => ?_) 0 y0 (Nat.zero_le _) ⟨fun j hj => absurd hj (Nat.not_lt_zero _), fun _ _ => rfl⟩
      · skip
        refine aw rfl rfl ?_
        refine aw_c (v := nI 10) rfl (by decide) ?_
        refine aw_igen rfl (fun c54 => by omega) (fun c54 => ?_)
        refine aw rfl rfl ?_
        refine aw_getf rfl mg_121 rfl ?_
        refine aw_c (v := nI 10) rfl (by decide) ?_
        refine aw rfl rfl ?_
        refine aw_getfE rfl mg_121 rfl (congrArg Value.int (show _ = nI 49 from rfl)) ?_
        refine aw_muln rfl ?_
        refine aw rfl rfl ?_
        refine aw_addn rfl ?_
        refine aw rfl rfl ?_
        refine aw_getf rfl mg_121 rfl ?_
        refine aw rfl rfl ?_
        refine aw_iald rfl mg_157 rfl (by omega) (by decide) ?_
        refine aw_iastU rfl mg_161 rfl (by omega) (by decide) (by decide) mu_161 ?_
        refine aw_incn (c := 1) (ls' := [_, _]) rfl rfl (by decide) rfl ?_
        refine aw rfl rfl ?_
        exact ihz (upd y (10 * 49 + z) (k.2.1 53 z)) ⟨fun j hj => by
          by_cases e : j = z
          · subst e; exact upd_at
          · exact (upd_ne (by omega)).trans (hIz.1 j (by omega)), fun n hn => (upd_ne (by omega)).trans (hIz.2 n hn)⟩
      · skip
        refine aw rfl rfl ?_
        refine aw_c (v := nI 10) rfl (by decide) ?_
        refine aw_ige rfl (fun _ => ?_) (fun c => absurd (by decide) c)
        refine aw rfl rfl ?_
        refine aw rfl rfl ?_
        refine aw_getfE rfl mg_121 rfl (congrArg Value.int (show _ = nI 49 from rfl)) ?_
        refine aw_c (v := nI 1) rfl (by decide) ?_
        refine aw_addn rfl ?_
        refine aw_putfU rfl mg_121 rfl rfl (by decide) mp_58 ?_
        refine aw rfl rfl ?_
        refine aw_cv (d1 := 0) (L1 := 0) rfl rfl mg_121 rfl rfl (by decide) (by decide) (Nat.le_of_ble_eq_true rfl) (c_X11_keepsRow (fun f hf => ?_))
        exact aw_vret rfl rfl (by
          refine q _ ((((ks2 (k := k) (i := 59) (f := y)).tr (ks1 (i := 58) (x := nI 49))).tr (ks1 (i := 58) (x := nI (49 + 1)))).tr (ks2 (i := 53) (f := f)) |>.sub (by simp) (by simp)) ⟨by unfold psU; rw [if_pos c6]; decide, by unfold psU; rw [if_pos c6]; rfl, fun i hi => ?_⟩ hf
          unfold psU at hi
          rw [if_pos c6] at hi
          unfold psP
          rw [if_pos c6]
          show NR T (fun j => y (10 * i + j)) _ ∧ _
          by_cases ei : i = 49
          · subst ei
            rw [if_pos rfl]
            exact ⟨hN.congr (fun j hj => hIz.1 j hj), hSC⟩
          · rw [if_neg ei]
            exact ⟨(uin (i + 1) (by omega)).1.congr (fun j hj => (hIz.2 _ (by omega)).trans ((hsh.1 _ (by omega)).trans (congrArg (k.2.1 59) (by omega)))), (uin (i + 1) (by omega)).2⟩)
theorem row_nr {f : Nat → Int32} (hf : ∀ j, j < 10 → f j = k.2.1 53 j) (hN : NR T (k.2.1 53) S) : NR T f S := hN.congr hf
theorem c_comesL {Q : Option Value → am_H → Prop} (hX : MS k T W S u P td TD hd Z nt tp pc cc) {x : Int32} (hc1 : cc < 1000) (h6 : S 6 = 0) (q : ∀ k', MS k' T W (mvL S) (psU u) (psP u P S) td TD hd Z nt tp pc (cc + 1) → Q (some (.int (nI 2))) (mh g k' v pl br lo c ct pr pt cm bf bt)) : AC am_P 3 64 243 [.ref 121, .int (nI 384), .int x] (mh g k v pl br lo c ct pr pt cm bf bt) Q := by
  refine AC.of (ls := [_, _, _, _]) rfl ?_
  have hX0 := hX
  obtain ⟨⟨lv, hM⟩, hG, hN, hSC, hH, hT, hL, hA, hpc, hKY, hcc⟩ := hX
  have hS := hSC.1
  have hM0 := hM
  have hG0 := hG
  obtain ⟨m0, m1, mr, mw, mf, mk, mli, mt, ms, msq, moc, mwy, msp, mlw⟩ := hM
  obtain ⟨⟨g0, g0x⟩, ⟨g1, g1x⟩, ⟨g2, g2x⟩, ⟨g3, g3x⟩, g4, ⟨g5, g5x⟩, g6, gsq, goc, gwt, gsp, gfr⟩ := hG
  have hN0 := hN
  have hS0 := hS
  obtain ⟨n0, n1, n2, n3, n4, n5, n6, n7, n8⟩ := hN
  obtain ⟨s0, s1, s2, s3, s4, s5, s6⟩ := hS
  refine aw rfl rfl ?_
  refine aw_cv (d1 := 0) (L1 := 0) rfl rfl mg_121 rfl rfl (by decide) (by decide) (Nat.le_of_ble_eq_true rfl) (c_X11_copies (fun f hf => ?_))
  refine aw rfl rfl ?_
  refine aw_getf rfl mg_121 rfl ?_
  refine aw_c (v := nI 4) rfl (by decide) ?_
  refine aw rfl rfl ?_
  refine aw_ialdE rfl mg_158 rfl (by omega) (by decide) ((hf 4 (by decide)).trans n4) ?_
  refine aw_c (v := nI 1) rfl (by decide) ?_
  refine aw_addn rfl ?_
  refine aw_iastU rfl mg_158 rfl (by omega) (by decide) (by decide) mu_158 ?_
  refine aw rfl rfl ?_
  refine aw_getf rfl mg_121 rfl ?_
  refine aw_c (v := nI 5) rfl (by decide) ?_
  refine aw rfl rfl ?_
  refine aw_ialdE rfl mg_158 rfl (by omega) (by decide) ((hf 5 (by decide)).trans n5) ?_
  refine aw rfl rfl ?_
  refine aw_getf rfl mg_121 rfl ?_
  refine aw rfl rfl ?_
  refine aw_getfE rfl mg_121 rfl (congrArg Value.int m1) ?_
  refine aw_ialdE rfl mg_143 rfl (by omega) (by decide) mt ?_
  refine aw_addn rfl ?_
  refine aw_iastU rfl mg_158 rfl (by omega) (by decide) (by decide) mu_158 ?_
  refine aw_c (v := nI 0) rfl (by decide) ?_
  refine aw_ist (ls' := [_, _, _, _]) rfl rfl ?_
  refine aw rfl rfl ?_
  refine aw_c (v := nI 384) rfl (by decide) ?_
  refine aw_ine rfl (fun c => absurd (by decide) c) (fun _ => ?_)
  refine aw rfl rfl ?_
  refine aw_getf rfl mg_121 rfl ?_
  refine aw_c (v := nI 7) rfl (by decide) ?_
  refine aw_c (v := nI 1) rfl (by decide) ?_
  refine aw_iastU rfl mg_158 rfl (by omega) (by decide) (by decide) mu_158 ?_
  refine aw_c (v := nI 2) rfl (by decide) ?_
  refine aw_ist (ls' := [_, _, _, _]) rfl rfl ?_
  refine aw rfl rfl ?_
  refine aw rfl rfl ?_
  refine aw_cv (d1 := 1) (L1 := 21) rfl rfl mg_121 rfl rfl (by decide) (by decide) (Nat.le_of_ble_eq_true rfl) (c_X11_keeps (k := (k.1, va_up k.2.1 54 (upd (upd (upd f 4 (nI (S 4 + 1))) 5 (nI (S 4 * T.1 5 + T.1 5))) 7 (nI 1)), k.2.2)) (hH.keep (ks2 (i := 54)) (by decide) (by decide)) hN0 hSC (fun k2 hk2 hH2 hn2 => ?_))
  refine aw rfl rfl ?_
  exact aw_iret rfl rfl (by
    refine q _ ?_
    have hks := ((ks2 (k := k) (i := 54) (f := upd (upd (upd f 4 (nI (S 4 + 1))) 5 (nI (S 4 * T.1 5 + T.1 5))) 7 (nI 1))).tr hk2).sub (I1 := [58]) (J1 := [54, 59, 53]) (by simp) (by simp)
    have h0 := hX0.keep hks (by decide) (fun i h1 h2 => by simp; omega)
    refine ⟨h0.1, hG0, ?_, hSC.lost hc1, hH2.mono (by omega), hT.keep hks (by decide) (by decide) (by decide), (hL.mono (by omega)).keep hks (by decide) (by decide), hA.keep hks (by decide) (by decide), ?_, h0.2.2, by omega⟩
    · refine NR.congr (f := upd (upd (upd f 4 (nI (S 4 + 1))) 5 (nI (S 4 * T.1 5 + T.1 5))) 7 (nI 1)) ?_ hn2
      unfold NR
      exact ⟨(hf 0 (by decide)).trans n0, (hf 1 (by decide)).trans n1, (hf 2 (by decide)).trans n2, (hf 3 (by decide)).trans n3, rfl, congrArg nI (by show S 4 * T.1 5 + T.1 5 = (S 4 + 1) * T.1 5; rw [Nat.add_mul, Nat.one_mul]), (hf 6 (by decide)).trans n6, rfl, (hf 8 (by decide)).trans n8⟩
    · rw [hks.1 17 (by decide)]; exact hpc)
theorem c_comesM1 {Q : Option Value → am_H → Prop} (hX : MS k T W S u P td TD hd Z nt tp pc cc) {m w : Nat} (hc1 : cc < 1000) (h6 : S 6 = 0) (hm9 : lieOK T m) (hw : w + 1 = S 2) (q : ∀ k', MS k' T W (mvM T S m w true) (psU u) (psP u P S) td TD hd Z nt tp pc (cc + 1) → Q (some (.int (nI 3))) (mh g k' v pl br lo c ct pr pt cm bf bt)) : AC am_P 3 64 243 [.ref 121, .int (nI (4 * m + w)), .int (nI 1)] (mh g k v pl br lo c ct pr pt cm bf bt) Q := by
  refine AC.of (ls := [_, _, _, _]) rfl ?_
  have hX0 := hX
  obtain ⟨⟨lv, hM⟩, hG, hN, hSC, hH, hT, hL, hA, hpc, hKY, hcc⟩ := hX
  have hS := hSC.1
  have hM0 := hM
  have hG0 := hG
  obtain ⟨m0, m1, mr, mw, mf, mk, mli, mt, ms, msq, moc, mwy, msp, mlw⟩ := hM
  obtain ⟨⟨g0, g0x⟩, ⟨g1, g1x⟩, ⟨g2, g2x⟩, ⟨g3, g3x⟩, g4, ⟨g5, g5x⟩, g6, gsq, goc, gwt, gsp, gfr⟩ := hG
  have hN0 := hN
  have hS0 := hS
  obtain ⟨n0, n1, n2, n3, n4, n5, n6, n7, n8⟩ := hN
  obtain ⟨s0, s1, s2, s3, s4, s5, s6⟩ := hS
  have hm96 := hm9.1
  have ew : (4 * m + w) % 4 = w := by omega
  refine aw rfl rfl ?_
  refine aw_cv (d1 := 0) (L1 := 0) rfl rfl mg_121 rfl rfl (by decide) (by decide) (Nat.le_of_ble_eq_true rfl) (c_X11_copies (fun f hf => ?_))
  refine aw rfl rfl ?_
  refine aw_getf rfl mg_121 rfl ?_
  refine aw_c (v := nI 4) rfl (by decide) ?_
  refine aw rfl rfl ?_
  refine aw_ialdE rfl mg_158 rfl (by omega) (by decide) ((hf 4 (by decide)).trans n4) ?_
  refine aw_c (v := nI 1) rfl (by decide) ?_
  refine aw_addn rfl ?_
  refine aw_iastU rfl mg_158 rfl (by omega) (by decide) (by decide) mu_158 ?_
  refine aw rfl rfl ?_
  refine aw_getf rfl mg_121 rfl ?_
  refine aw_c (v := nI 5) rfl (by decide) ?_
  refine aw rfl rfl ?_
  refine aw_ialdE rfl mg_158 rfl (by omega) (by decide) ((hf 5 (by decide)).trans n5) ?_
  refine aw rfl rfl ?_
  refine aw_getf rfl mg_121 rfl ?_
  refine aw rfl rfl ?_
  refine aw_getfE rfl mg_121 rfl (congrArg Value.int m1) ?_
  refine aw_ialdE rfl mg_143 rfl (by omega) (by decide) mt ?_
  refine aw_addn rfl ?_
  refine aw_iastU rfl mg_158 rfl (by omega) (by decide) (by decide) mu_158 ?_
  refine aw_c (v := nI 0) rfl (by decide) ?_
  refine aw_ist (ls' := [_, _, _, _]) rfl rfl ?_
  refine aw rfl rfl ?_
  refine aw_c (v := nI 384) rfl (by decide) ?_
  refine aw_inen rfl (fun c38 => ?_) (fun c38 => by omega)
  refine aw rfl rfl ?_
  refine aw_getf rfl mg_121 rfl ?_
  refine aw_c (v := nI 0) rfl (by decide) ?_
  refine aw rfl rfl ?_
  refine aw_cs (d1 := 0) (L1 := 0) rfl rfl (by decide) (by decide) (Nat.le_of_ble_eq_true rfl) (c_al (by omega) (by omega) ?_)
  refine aw_iastU rfl mg_158 rfl (by omega) (by decide) (by decide) mu_158 ?_
  refine aw rfl rfl ?_
  refine aw_getf rfl mg_121 rfl ?_
  refine aw_c (v := nI 1) rfl (by decide) ?_
  refine aw rfl rfl ?_
  refine aw_cs (d1 := 0) (L1 := 0) rfl rfl (by decide) (by decide) (Nat.le_of_ble_eq_true rfl) (c_ac (by omega) (by omega) ?_)
  refine aw_iastU rfl mg_158 rfl (by omega) (by decide) (by decide) mu_158 ?_
  refine aw rfl rfl ?_
  refine aw_getf rfl mg_121 rfl ?_
  refine aw_c (v := nI 2) rfl (by decide) ?_
  refine aw rfl rfl ?_
  refine aw_cs (d1 := 0) (L1 := 0) rfl rfl (by decide) (by decide) (Nat.le_of_ble_eq_true rfl) (c_fc (by omega) (by omega) ?_)
  refine aw_iastU rfl mg_158 rfl (by omega) (by decide) (by decide) mu_158 ?_
  refine aw rfl rfl ?_
  refine aw_getf rfl mg_121 rfl ?_
  refine aw_c (v := nI 3) rfl (by decide) ?_
  refine aw rfl rfl ?_
  refine aw_c (v := nI 4) rfl (by decide) ?_
  refine aw_remn rfl (by omega) (by omega) (by omega) ?_
  rw [ew]
  refine aw_iastU rfl mg_158 rfl (by omega) (by decide) (by decide) mu_158 ?_
  refine aw rfl rfl ?_
  refine aw_eq rfl (fun c => absurd c (by decide)) (fun _ => ?_)
  refine aw rfl rfl ?_
  refine aw_getf rfl mg_121 rfl ?_
  refine aw_c (v := nI 8) rfl (by decide) ?_
  refine aw rfl rfl ?_
  refine aw_ialdE rfl mg_158 rfl (by omega) (by decide) ((hf 8 (by decide)).trans n8) ?_
  refine aw_c (v := nI 1) rfl (by decide) ?_
  refine aw_addn rfl ?_
  refine aw_iastU rfl mg_158 rfl (by omega) (by decide) (by decide) mu_158 ?_
  refine aw rfl rfl ?_
  refine aw_eq rfl (fun c => absurd c (by decide)) (fun _ => ?_)
  refine aw_c (v := nI 3) rfl (by decide) ?_
  refine aw rfl rfl ?_
  refine aw_ist (ls' := [_, _, _, _]) rfl rfl ?_
  refine aw rfl rfl ?_
  refine aw_cv (d1 := 1) (L1 := 21) rfl rfl mg_121 rfl rfl (by decide) (by decide) (Nat.le_of_ble_eq_true rfl) (c_X11_keeps (k := (k.1, va_up k.2.1 54 (upd (upd (upd (upd (upd (upd (upd f 4 (nI (S 4 + 1))) 5 (nI (S 4 * T.1 5 + T.1 5))) 0 (nI (m / 3 % 8))) 1 (nI (m / 3 / 8))) 2 (nI (m % 3))) 3 (nI w)) 8 (nI (S 3 + 1))), k.2.2)) (hH.keep (ks2 (i := 54)) (by decide) (by decide)) hN0 hSC (fun k2 hk2 hH2 hn2 => ?_))
  refine aw rfl rfl ?_
  exact aw_iret rfl rfl (by
    refine q _ ?_
    have hks := ((ks2 (k := k) (i := 54) (f := upd (upd (upd (upd (upd (upd (upd f 4 (nI (S 4 + 1))) 5 (nI (S 4 * T.1 5 + T.1 5))) 0 (nI (m / 3 % 8))) 1 (nI (m / 3 / 8))) 2 (nI (m % 3))) 3 (nI w)) 8 (nI (S 3 + 1)))).tr hk2).sub (I1 := [58]) (J1 := [54, 59, 53]) (by simp) (by simp)
    have h0 := hX0.keep hks (by decide) (fun i h1 h2 => by simp; omega)
    refine ⟨h0.1, hG0, ?_, hSC.move hc1 hm9 hw g4, hH2.mono (by omega), hT.keep hks (by decide) (by decide) (by decide), (hL.mono (by omega)).keep hks (by decide) (by decide), hA.keep hks (by decide) (by decide), ?_, h0.2.2, by omega⟩
    · refine NR.congr (f := upd (upd (upd (upd (upd (upd (upd f 4 (nI (S 4 + 1))) 5 (nI (S 4 * T.1 5 + T.1 5))) 0 (nI (m / 3 % 8))) 1 (nI (m / 3 / 8))) 2 (nI (m % 3))) 3 (nI w)) 8 (nI (S 3 + 1))) ?_ hn2
      unfold NR
      exact ⟨rfl, rfl, rfl, rfl, rfl, congrArg nI (by show S 4 * T.1 5 + T.1 5 = (S 4 + 1) * T.1 5; rw [Nat.add_mul, Nat.one_mul]), (hf 6 (by decide)).trans n6, ((hf 7 (by decide)).trans n7).trans (congrArg nI (by show (if S 6 = 2 then 1 else 0) = if mvM T S m w true 6 = 2 then 1 else 0; rw [if_neg (by omega), if_neg (show ¬ mvM T S m w true 6 = 2 from by show ¬ (bif hm T m then 1 else 0) = 2; cases hm T m <;> decide)])), rfl⟩
    · rw [hks.1 17 (by decide)]; exact hpc)
theorem c_comesM0 {Q : Option Value → am_H → Prop} (hX : MS k T W S u P td TD hd Z nt tp pc cc) {m w : Nat} (hc1 : cc < 1000) (h6 : S 6 = 0) (hm9 : lieOK T m) (hw : w + 0 = S 2) (q : ∀ k', MS k' T W (mvM T S m w false) (psU u) (psP u P S) td TD hd Z nt tp pc (cc + 1) → Q (some (.int (bif hm T m then nI 1 else nI 0))) (mh g k' v pl br lo c ct pr pt cm bf bt)) : AC am_P 3 64 243 [.ref 121, .int (nI (4 * m + w)), .int (nI 0)] (mh g k v pl br lo c ct pr pt cm bf bt) Q := by
  refine AC.of (ls := [_, _, _, _]) rfl ?_
  have hX0 := hX
  obtain ⟨⟨lv, hM⟩, hG, hN, hSC, hH, hT, hL, hA, hpc, hKY, hcc⟩ := hX
  have hS := hSC.1
  have hM0 := hM
  have hG0 := hG
  obtain ⟨m0, m1, mr, mw, mf, mk, mli, mt, ms, msq, moc, mwy, msp, mlw⟩ := hM
  obtain ⟨⟨g0, g0x⟩, ⟨g1, g1x⟩, ⟨g2, g2x⟩, ⟨g3, g3x⟩, g4, ⟨g5, g5x⟩, g6, gsq, goc, gwt, gsp, gfr⟩ := hG
  have hN0 := hN
  have hS0 := hS
  obtain ⟨n0, n1, n2, n3, n4, n5, n6, n7, n8⟩ := hN
  obtain ⟨s0, s1, s2, s3, s4, s5, s6⟩ := hS
  have hm96 := hm9.1
  have ew : (4 * m + w) % 4 = w := by omega
  refine aw rfl rfl ?_
  refine aw_cv (d1 := 0) (L1 := 0) rfl rfl mg_121 rfl rfl (by decide) (by decide) (Nat.le_of_ble_eq_true rfl) (c_X11_copies (fun f hf => ?_))
  refine aw rfl rfl ?_
  refine aw_getf rfl mg_121 rfl ?_
  refine aw_c (v := nI 4) rfl (by decide) ?_
  refine aw rfl rfl ?_
  refine aw_ialdE rfl mg_158 rfl (by omega) (by decide) ((hf 4 (by decide)).trans n4) ?_
  refine aw_c (v := nI 1) rfl (by decide) ?_
  refine aw_addn rfl ?_
  refine aw_iastU rfl mg_158 rfl (by omega) (by decide) (by decide) mu_158 ?_
  refine aw rfl rfl ?_
  refine aw_getf rfl mg_121 rfl ?_
  refine aw_c (v := nI 5) rfl (by decide) ?_
  refine aw rfl rfl ?_
  refine aw_ialdE rfl mg_158 rfl (by omega) (by decide) ((hf 5 (by decide)).trans n5) ?_
  refine aw rfl rfl ?_
  refine aw_getf rfl mg_121 rfl ?_
  refine aw rfl rfl ?_
  refine aw_getfE rfl mg_121 rfl (congrArg Value.int m1) ?_
  refine aw_ialdE rfl mg_143 rfl (by omega) (by decide) mt ?_
  refine aw_addn rfl ?_
  refine aw_iastU rfl mg_158 rfl (by omega) (by decide) (by decide) mu_158 ?_
  refine aw_c (v := nI 0) rfl (by decide) ?_
  refine aw_ist (ls' := [_, _, _, _]) rfl rfl ?_
  refine aw rfl rfl ?_
  refine aw_c (v := nI 384) rfl (by decide) ?_
  refine aw_inen rfl (fun c38 => ?_) (fun c38 => by omega)
  refine aw rfl rfl ?_
  refine aw_getf rfl mg_121 rfl ?_
  refine aw_c (v := nI 0) rfl (by decide) ?_
  refine aw rfl rfl ?_
  refine aw_cs (d1 := 0) (L1 := 0) rfl rfl (by decide) (by decide) (Nat.le_of_ble_eq_true rfl) (c_al (by omega) (by omega) ?_)
  refine aw_iastU rfl mg_158 rfl (by omega) (by decide) (by decide) mu_158 ?_
  refine aw rfl rfl ?_
  refine aw_getf rfl mg_121 rfl ?_
  refine aw_c (v := nI 1) rfl (by decide) ?_
  refine aw rfl rfl ?_
  refine aw_cs (d1 := 0) (L1 := 0) rfl rfl (by decide) (by decide) (Nat.le_of_ble_eq_true rfl) (c_ac (by omega) (by omega) ?_)
  refine aw_iastU rfl mg_158 rfl (by omega) (by decide) (by decide) mu_158 ?_
  refine aw rfl rfl ?_
  refine aw_getf rfl mg_121 rfl ?_
  refine aw_c (v := nI 2) rfl (by decide) ?_
  refine aw rfl rfl ?_
  refine aw_cs (d1 := 0) (L1 := 0) rfl rfl (by decide) (by decide) (Nat.le_of_ble_eq_true rfl) (c_fc (by omega) (by omega) ?_)
  refine aw_iastU rfl mg_158 rfl (by omega) (by decide) (by decide) mu_158 ?_
  refine aw rfl rfl ?_
  refine aw_getf rfl mg_121 rfl ?_
  refine aw_c (v := nI 3) rfl (by decide) ?_
  refine aw rfl rfl ?_
  refine aw_c (v := nI 4) rfl (by decide) ?_
  refine aw_remn rfl (by omega) (by omega) (by omega) ?_
  rw [ew]
  refine aw_iastU rfl mg_158 rfl (by omega) (by decide) (by decide) mu_158 ?_
  refine aw rfl rfl ?_
  refine aw_eq rfl (fun _ => ?_) (fun c => absurd (by decide) c)
  refine aw rfl rfl ?_
  refine aw_eq rfl (fun _ => ?_) (fun c => absurd (by decide) c)
  refine aw rfl rfl ?_
  refine aw rfl rfl ?_
  refine aw_cv (d1 := 2) (L1 := 43) rfl rfl mg_121 rfl rfl (by decide) (by decide) (Nat.le_of_ble_eq_true rfl) (c_isHm hM0 hG0 hm9 (by omega) (fun hz => ?_) (fun hz => ?_))
  · refine aw_eq rfl (fun c => absurd c (by decide)) (fun _ => ?_)
    refine aw_c (v := nI 1) rfl (by decide) ?_
    refine aw rfl rfl ?_
    refine aw_ist (ls' := [_, _, _, _]) rfl rfl ?_
    refine aw rfl rfl ?_
    refine aw_cv (d1 := 1) (L1 := 21) rfl rfl mg_121 rfl rfl (by decide) (by decide) (Nat.le_of_ble_eq_true rfl) (c_X11_keeps (k := (k.1, va_up k.2.1 54 (upd (upd (upd (upd (upd (upd f 4 (nI (S 4 + 1))) 5 (nI (S 4 * T.1 5 + T.1 5))) 0 (nI (m / 3 % 8))) 1 (nI (m / 3 / 8))) 2 (nI (m % 3))) 3 (nI w)), k.2.2)) (hH.keep (ks2 (i := 54)) (by decide) (by decide)) hN0 hSC (fun k2 hk2 hH2 hn2 => ?_))
    refine aw rfl rfl ?_
    exact aw_iret rfl rfl (by
    rw [hz, cond_true] at q
    refine q _ ?_
    have hks := ((ks2 (k := k) (i := 54) (f := upd (upd (upd (upd (upd (upd f 4 (nI (S 4 + 1))) 5 (nI (S 4 * T.1 5 + T.1 5))) 0 (nI (m / 3 % 8))) 1 (nI (m / 3 / 8))) 2 (nI (m % 3))) 3 (nI w))).tr hk2).sub (I1 := [58]) (J1 := [54, 59, 53]) (by simp) (by simp)
    have h0 := hX0.keep hks (by decide) (fun i h1 h2 => by simp; omega)
    refine ⟨h0.1, hG0, ?_, hSC.move hc1 hm9 hw g4, hH2.mono (by omega), hT.keep hks (by decide) (by decide) (by decide), (hL.mono (by omega)).keep hks (by decide) (by decide), hA.keep hks (by decide) (by decide), ?_, h0.2.2, by omega⟩
    · refine NR.congr (f := upd (upd (upd (upd (upd (upd f 4 (nI (S 4 + 1))) 5 (nI (S 4 * T.1 5 + T.1 5))) 0 (nI (m / 3 % 8))) 1 (nI (m / 3 / 8))) 2 (nI (m % 3))) 3 (nI w)) ?_ hn2
      unfold NR
      exact ⟨rfl, rfl, rfl, rfl, rfl, congrArg nI (by show S 4 * T.1 5 + T.1 5 = (S 4 + 1) * T.1 5; rw [Nat.add_mul, Nat.one_mul]), (hf 6 (by decide)).trans n6, ((hf 7 (by decide)).trans n7).trans (congrArg nI (by show (if S 6 = 2 then 1 else 0) = if mvM T S m w false 6 = 2 then 1 else 0; rw [if_neg (by omega), if_neg (show ¬ mvM T S m w false 6 = 2 from by show ¬ (bif hm T m then 1 else 0) = 2; cases hm T m <;> decide)])), (hf 8 (by decide)).trans n8⟩
    · rw [hks.1 17 (by decide)]; exact hpc)
  · refine aw_eq rfl (fun _ => ?_) (fun c => absurd (by decide) c)
    refine aw_c (v := nI 0) rfl (by decide) ?_
    refine aw_ist (ls' := [_, _, _, _]) rfl rfl ?_
    refine aw rfl rfl ?_
    refine aw_cv (d1 := 1) (L1 := 21) rfl rfl mg_121 rfl rfl (by decide) (by decide) (Nat.le_of_ble_eq_true rfl) (c_X11_keeps (k := (k.1, va_up k.2.1 54 (upd (upd (upd (upd (upd (upd f 4 (nI (S 4 + 1))) 5 (nI (S 4 * T.1 5 + T.1 5))) 0 (nI (m / 3 % 8))) 1 (nI (m / 3 / 8))) 2 (nI (m % 3))) 3 (nI w)), k.2.2)) (hH.keep (ks2 (i := 54)) (by decide) (by decide)) hN0 hSC (fun k2 hk2 hH2 hn2 => ?_))
    refine aw rfl rfl ?_
    exact aw_iret rfl rfl (by
    rw [hz, cond_false] at q
    refine q _ ?_
    have hks := ((ks2 (k := k) (i := 54) (f := upd (upd (upd (upd (upd (upd f 4 (nI (S 4 + 1))) 5 (nI (S 4 * T.1 5 + T.1 5))) 0 (nI (m / 3 % 8))) 1 (nI (m / 3 / 8))) 2 (nI (m % 3))) 3 (nI w))).tr hk2).sub (I1 := [58]) (J1 := [54, 59, 53]) (by simp) (by simp)
    have h0 := hX0.keep hks (by decide) (fun i h1 h2 => by simp; omega)
    refine ⟨h0.1, hG0, ?_, hSC.move hc1 hm9 hw g4, hH2.mono (by omega), hT.keep hks (by decide) (by decide) (by decide), (hL.mono (by omega)).keep hks (by decide) (by decide), hA.keep hks (by decide) (by decide), ?_, h0.2.2, by omega⟩
    · refine NR.congr (f := upd (upd (upd (upd (upd (upd f 4 (nI (S 4 + 1))) 5 (nI (S 4 * T.1 5 + T.1 5))) 0 (nI (m / 3 % 8))) 1 (nI (m / 3 / 8))) 2 (nI (m % 3))) 3 (nI w)) ?_ hn2
      unfold NR
      exact ⟨rfl, rfl, rfl, rfl, rfl, congrArg nI (by show S 4 * T.1 5 + T.1 5 = (S 4 + 1) * T.1 5; rw [Nat.add_mul, Nat.one_mul]), (hf 6 (by decide)).trans n6, ((hf 7 (by decide)).trans n7).trans (congrArg nI (by show (if S 6 = 2 then 1 else 0) = if mvM T S m w false 6 = 2 then 1 else 0; rw [if_neg (by omega), if_neg (show ¬ mvM T S m w false 6 = 2 from by show ¬ (bif hm T m then 1 else 0) = 2; cases hm T m <;> decide)])), (hf 8 (by decide)).trans n8⟩
    · rw [hks.1 17 (by decide)]; exact hpc)
end M1
