/-! ===== the class: touches, worth, face, side ===== -/
def tcX (T : Sd) (s : Nat) (x : Int32) : Option Nat := if nI 0 ≤ x ∧ x ≤ nI 3 then tcS T s x.toNatClampNeg else none
theorem n_decI {a b : Nat} (ha : a < 2147483648) (hb : b < 2147483648) (h : nI a + -1 = nI b) : a = b + 1 := by
  by_cases e : a = 0
  · subst e; exact absurd h.symm (fun z => n_m1 hb (z.trans (by decide)))
  · rw [n_dec (by omega)] at h
    have := (nI_eq (by omega) hb).mp h
    omega
section C1
variable {g : am_H} {T0 T1 T : Sd} {u0 u1 : Ua} {K : Ck} {rf : Nat → Nat} {p : Nat} {S : Nat → Nat} {u td nt cc : Nat} {P Z : Nat → Nat → Nat} {TD : Nat → Nat} {hd : Nat → Bool} {tp : Nat → Int32} {pc : Int32} {W : Nat → Lw}
variable {no na : Nat} {lf : Nat → Nat}
theorem bs_ex {f : Nat → Nat} {cn : Nat → Bool} {i : Nat} (h : cn i = true) : ∀ n, i < n → ∃ p, bs f cn n = some p := by
  intro n
  induction n with
  | zero => intro hi; omega
  | succ n ih =>
    intro hi
    cases e : bs f cn n with
    | some p =>
      rw [bs_more e]
      cases (cn n && decide (p.2 < f n)) <;> exact ⟨_, rfl⟩
    | none =>
      by_cases e2 : i = n
      · subst e2; exact ⟨_, by rw [bs_none e, h]; rfl⟩
      · obtain ⟨p, hp⟩ := ih (by omega); rw [e] at hp; cases hp
theorem bs2_ge {o : Option (Nat × Nat)} (h : ∀ p, o = some p → p.2 < 2147483648) : (-1 : Int32) ≤ bs2 o := by
  cases o with
  | none => exact Int32.le_refl _
  | some p => exact Int32.le_trans (by decide : (-1 : Int32) ≤ nI 0) (nI_le (Nat.zero_le _) (h p rfl))
theorem fr_0 {m : Nat} {b : Bool} (h : 0 < m) : fr 0 m b = fr 0 1 b := by
  unfold fr
  rw [Nat.gcd_zero_left, Nat.gcd_zero_left]
  cases b with
  | true => show m / m = 1 / 1; rw [Nat.div_self h]
  | false => show 0 / m = 0 / 1; rw [Nat.zero_div]
theorem c_X10_touched {Q : Option Value → am_H → Prop} (hC : CS g T0 u0 T1 u1 K rf p T W S u P td TD hd Z nt tp pc cc) {x : Int32} (q1 : ∀ s, tcX T (S 0) x = some s → lieOK T (s * 3 + S 1) → Q (some (.int (nI s))) (ch g T0 u0 T1 u1 K rf)) (q0 : tcX T (S 0) x = none → Q (some (.int (-1))) (ch g T0 u0 T1 u1 K rf)) : AC am_P 2 43 150 [.ref 8, .int x] (ch g T0 u0 T1 u1 K rf) Q := by
  refine AC.of (ls := [_, _, _, _, _]) rfl ?_
  have hp := hC.cx.1
  have hG := hC.cx.2.1
  have hG0 := hG
  obtain ⟨⟨g0, g0x⟩, ⟨g1, g1x⟩, ⟨g2, g2x⟩, ⟨g3, g3x⟩, g4, ⟨g5, g5x⟩, g6, gsq, goc, gwt, gsp, gfr⟩ := hG
  obtain ⟨s0, s1, s2, s3, s4, s5, s6⟩ := hC.sc
  have hl96 := s0.1
  have hs0 : S 0 < 32 := by omega
  have hal : S 0 % 8 < T.1 0 := by have := s0.2.1; rw [show (S 0 * 3 + S 1) / 3 = S 0 by omega] at this; exact this
  have hac : S 0 / 8 < T.1 1 := by have := s0.2.2.1; rw [show (S 0 * 3 + S 1) / 3 = S 0 by omega] at this; exact this
  have h12 : S 1 < T.1 2 := by have := s0.2.2.2.1; omega
  by_cases y0 : x = nI 0
  · subst y0
    have htx : tcX T (S 0) (nI 0) = if S 0 % 8 + 1 < T.1 0 then tcK T (S 0 + 1) else none := by unfold tcX; rw [if_pos ⟨by decide, by decide⟩, nI_clamp (by decide)]; unfold tcS; rw [if_pos rfl]
    refine aw rfl rfl ?_
    refine aw_getf rfl cg_8 rfl ?_
    refine aw_getfE rfl cg_46 rfl (congrArg Value.int (hC.st 0 (by decide))) ?_
    refine aw_cs (d1 := 0) (L1 := 0) rfl rfl (by decide) (by decide) (Nat.le_of_ble_eq_true rfl) (c_X10_alongOf (by omega) ?_)
    refine aw_ist (ls' := [_, _, _, _, _]) rfl rfl ?_
    refine aw rfl rfl ?_
    refine aw_getf rfl cg_8 rfl ?_
    refine aw_getfE rfl cg_46 rfl (congrArg Value.int (hC.st 0 (by decide))) ?_
    refine aw_cs (d1 := 0) (L1 := 0) rfl rfl (by decide) (by decide) (Nat.le_of_ble_eq_true rfl) (c_X10_acrossOf (by omega) ?_)
    refine aw_ist (ls' := [_, _, _, _, _]) rfl rfl ?_
    refine aw rfl rfl ?_
    refine aw_ts (z := 0) (tgt := 52) rfl (by decide) (by decide) ?_
    refine aw_incn (c := 1) (ls' := [_, _, _, _, _]) rfl rfl (by decide) rfl ?_
    refine aw rfl rfl ?_
    refine aw rfl rfl ?_
    refine aw_getfE rfl cg_8 rfl (congrArg Value.ref hC.cx.2.2.2.2.2.1) ?_
    refine aw rfl rfl ?_
    refine aw rfl rfl ?_
    refine aw_cv (d1 := 0) (L1 := 0) rfl rfl (sa hp).1 rfl rfl (by decide) (by decide) (Nat.le_of_ble_eq_true rfl) (c_sq hC (fun a e6 z6 ea ee ha he hz ez => ?_) (fun pz => ?_))
    · refine aw_c (v := -1) rfl (by decide) ?_
      refine aw_inem rfl ?_
      have e1 := (nI_eq (by omega) (by omega)).mp ea
      have e2 := (nI_eq (by omega) (by omega)).mp ee
      rw [if_pos (by omega), show S 0 + 1 = e6 * 8 + a by omega] at htx
      rw [ea, ee]
      refine aw rfl rfl ?_
      refine aw rfl rfl ?_
      refine aw_cs (d1 := 0) (L1 := 0) rfl rfl (by decide) (by decide) (Nat.le_of_ble_eq_true rfl) (c_X10_squareOf ?_)
      refine aw_ist (ls' := [_, _, _, _, _]) rfl rfl ?_
      refine aw rfl rfl ?_
      refine aw_getfE rfl cg_8 rfl (congrArg Value.ref hC.cx.2.2.2.2.2.1) ?_
      refine aw rfl rfl ?_
      refine aw_cv (d1 := 1) (L1 := 21) rfl rfl (sa hp).1 rfl rfl (by decide) (by decide) (Nat.le_of_ble_eq_true rfl) (c_X7_canLie (sa hp) (by omega) (fun _ k4 k5 => ?_) (fun k => ?_))
      · refine aw_eq rfl (fun c => absurd c (by decide)) (fun _ => ?_)
        refine aw rfl rfl ?_
        refine aw rfl rfl ?_
        exact aw_iret rfl rfl (q1 (e6 * 8 + a) (by rw [htx]; unfold tcK; rw [if_neg (fun w => w.elim k4 k5)]) (lie_on ha he h12 g0x g1x g2x k4 k5))
      · refine aw_eq rfl (fun _ => ?_) (fun c => absurd (by decide) c)
        refine aw_c (v := -1) rfl (by decide) ?_
        exact aw_iret rfl rfl (q0 (by rw [htx]; unfold tcK; rw [if_pos (k.resolve_left (by rw [ez]; exact n_m1 (by omega)))]))
    · refine aw_c (v := -1) rfl (by decide) ?_
      refine aw_ine rfl (fun c => absurd (by decide) c) (fun _ => ?_)
      refine aw_c (v := -1) rfl (by decide) ?_
      exact aw_iret rfl rfl (q0 (by rw [htx, if_neg (fun w => pz.elim (fun z => nI_pos (by omega) z) (fun z => z.elim (fun z => nI_ge w (by omega) z) (fun z => z.elim (fun z => nI_pos (by omega) z) (fun z => nI_ge hac (by omega) z))))]))
  by_cases y1 : x = nI 1
  · subst y1
    have htx : tcX T (S 0) (nI 1) = if 1 ≤ S 0 % 8 then tcK T (S 0 - 1) else none := by unfold tcX; rw [if_pos ⟨by decide, by decide⟩, nI_clamp (by decide)]; unfold tcS; rw [if_neg (by decide), if_pos rfl]
    refine aw rfl rfl ?_
    refine aw_getf rfl cg_8 rfl ?_
    refine aw_getfE rfl cg_46 rfl (congrArg Value.int (hC.st 0 (by decide))) ?_
    refine aw_cs (d1 := 0) (L1 := 0) rfl rfl (by decide) (by decide) (Nat.le_of_ble_eq_true rfl) (c_X10_alongOf (by omega) ?_)
    refine aw_ist (ls' := [_, _, _, _, _]) rfl rfl ?_
    refine aw rfl rfl ?_
    refine aw_getf rfl cg_8 rfl ?_
    refine aw_getfE rfl cg_46 rfl (congrArg Value.int (hC.st 0 (by decide))) ?_
    refine aw_cs (d1 := 0) (L1 := 0) rfl rfl (by decide) (by decide) (Nat.le_of_ble_eq_true rfl) (c_X10_acrossOf (by omega) ?_)
    refine aw_ist (ls' := [_, _, _, _, _]) rfl rfl ?_
    refine aw rfl rfl ?_
    refine aw_ts (z := 1) (tgt := 58) rfl (by decide) (by decide) ?_
    refine aw_inc (c := -1) (ls' := [_, _, _, _, _]) rfl rfl (by decide) rfl ?_
    refine aw rfl rfl ?_
    refine aw rfl rfl ?_
    refine aw_getfE rfl cg_8 rfl (congrArg Value.ref hC.cx.2.2.2.2.2.1) ?_
    refine aw rfl rfl ?_
    refine aw rfl rfl ?_
    refine aw_cv (d1 := 0) (L1 := 0) rfl rfl (sa hp).1 rfl rfl (by decide) (by decide) (Nat.le_of_ble_eq_true rfl) (c_sq hC (fun a e6 z6 ea ee ha he hz ez => ?_) (fun pz => ?_))
    · refine aw_c (v := -1) rfl (by decide) ?_
      refine aw_inem rfl ?_
      have e1 := n_decI (by omega) (by omega) ea
      have e2 := (nI_eq (by omega) (by omega)).mp ee
      rw [if_pos (by omega), show S 0 - 1 = e6 * 8 + a by omega] at htx
      rw [ea, ee]
      refine aw rfl rfl ?_
      refine aw rfl rfl ?_
      refine aw_cs (d1 := 0) (L1 := 0) rfl rfl (by decide) (by decide) (Nat.le_of_ble_eq_true rfl) (c_X10_squareOf ?_)
      refine aw_ist (ls' := [_, _, _, _, _]) rfl rfl ?_
      refine aw rfl rfl ?_
      refine aw_getfE rfl cg_8 rfl (congrArg Value.ref hC.cx.2.2.2.2.2.1) ?_
      refine aw rfl rfl ?_
      refine aw_cv (d1 := 1) (L1 := 21) rfl rfl (sa hp).1 rfl rfl (by decide) (by decide) (Nat.le_of_ble_eq_true rfl) (c_X7_canLie (sa hp) (by omega) (fun _ k4 k5 => ?_) (fun k => ?_))
      · refine aw_eq rfl (fun c => absurd c (by decide)) (fun _ => ?_)
        refine aw rfl rfl ?_
        refine aw rfl rfl ?_
        exact aw_iret rfl rfl (q1 (e6 * 8 + a) (by rw [htx]; unfold tcK; rw [if_neg (fun w => w.elim k4 k5)]) (lie_on ha he h12 g0x g1x g2x k4 k5))
      · refine aw_eq rfl (fun _ => ?_) (fun c => absurd (by decide) c)
        refine aw_c (v := -1) rfl (by decide) ?_
        exact aw_iret rfl rfl (q0 (by rw [htx]; unfold tcK; rw [if_pos (k.resolve_left (by rw [ez]; exact n_m1 (by omega)))]))
    · refine aw_c (v := -1) rfl (by decide) ?_
      refine aw_ine rfl (fun c => absurd (by decide) c) (fun _ => ?_)
      refine aw_c (v := -1) rfl (by decide) ?_
      exact aw_iret rfl rfl (q0 (by rw [htx, if_neg (fun w => by rw [n_dec w] at pz; exact pz.elim (fun z => nI_pos (by omega) z) (fun z => z.elim (fun z => nI_ge (by omega) (by omega) z) (fun z => z.elim (fun z => nI_pos (by omega) z) (fun z => nI_ge hac (by omega) z))))]))
  by_cases y2 : x = nI 2
  · subst y2
    have htx : tcX T (S 0) (nI 2) = if S 0 / 8 + 1 < T.1 1 then tcK T (S 0 + 8) else none := by unfold tcX; rw [if_pos ⟨by decide, by decide⟩, nI_clamp (by decide)]; unfold tcS; rw [if_neg (by decide), if_neg (by decide), if_pos rfl]
    refine aw rfl rfl ?_
    refine aw_getf rfl cg_8 rfl ?_
    refine aw_getfE rfl cg_46 rfl (congrArg Value.int (hC.st 0 (by decide))) ?_
    refine aw_cs (d1 := 0) (L1 := 0) rfl rfl (by decide) (by decide) (Nat.le_of_ble_eq_true rfl) (c_X10_alongOf (by omega) ?_)
    refine aw_ist (ls' := [_, _, _, _, _]) rfl rfl ?_
    refine aw rfl rfl ?_
    refine aw_getf rfl cg_8 rfl ?_
    refine aw_getfE rfl cg_46 rfl (congrArg Value.int (hC.st 0 (by decide))) ?_
    refine aw_cs (d1 := 0) (L1 := 0) rfl rfl (by decide) (by decide) (Nat.le_of_ble_eq_true rfl) (c_X10_acrossOf (by omega) ?_)
    refine aw_ist (ls' := [_, _, _, _, _]) rfl rfl ?_
    refine aw rfl rfl ?_
    refine aw_ts (z := 2) (tgt := 64) rfl (by decide) (by decide) ?_
    refine aw_incn (c := 1) (ls' := [_, _, _, _, _]) rfl rfl (by decide) rfl ?_
    refine aw rfl rfl ?_
    refine aw rfl rfl ?_
    refine aw_getfE rfl cg_8 rfl (congrArg Value.ref hC.cx.2.2.2.2.2.1) ?_
    refine aw rfl rfl ?_
    refine aw rfl rfl ?_
    refine aw_cv (d1 := 0) (L1 := 0) rfl rfl (sa hp).1 rfl rfl (by decide) (by decide) (Nat.le_of_ble_eq_true rfl) (c_sq hC (fun a e6 z6 ea ee ha he hz ez => ?_) (fun pz => ?_))
    · refine aw_c (v := -1) rfl (by decide) ?_
      refine aw_inem rfl ?_
      have e1 := (nI_eq (by omega) (by omega)).mp ea
      have e2 := (nI_eq (by omega) (by omega)).mp ee
      rw [if_pos (by omega), show S 0 + 8 = e6 * 8 + a by omega] at htx
      rw [ea, ee]
      refine aw rfl rfl ?_
      refine aw rfl rfl ?_
      refine aw_cs (d1 := 0) (L1 := 0) rfl rfl (by decide) (by decide) (Nat.le_of_ble_eq_true rfl) (c_X10_squareOf ?_)
      refine aw_ist (ls' := [_, _, _, _, _]) rfl rfl ?_
      refine aw rfl rfl ?_
      refine aw_getfE rfl cg_8 rfl (congrArg Value.ref hC.cx.2.2.2.2.2.1) ?_
      refine aw rfl rfl ?_
      refine aw_cv (d1 := 1) (L1 := 21) rfl rfl (sa hp).1 rfl rfl (by decide) (by decide) (Nat.le_of_ble_eq_true rfl) (c_X7_canLie (sa hp) (by omega) (fun _ k4 k5 => ?_) (fun k => ?_))
      · refine aw_eq rfl (fun c => absurd c (by decide)) (fun _ => ?_)
        refine aw rfl rfl ?_
        refine aw rfl rfl ?_
        exact aw_iret rfl rfl (q1 (e6 * 8 + a) (by rw [htx]; unfold tcK; rw [if_neg (fun w => w.elim k4 k5)]) (lie_on ha he h12 g0x g1x g2x k4 k5))
      · refine aw_eq rfl (fun _ => ?_) (fun c => absurd (by decide) c)
        refine aw_c (v := -1) rfl (by decide) ?_
        exact aw_iret rfl rfl (q0 (by rw [htx]; unfold tcK; rw [if_pos (k.resolve_left (by rw [ez]; exact n_m1 (by omega)))]))
    · refine aw_c (v := -1) rfl (by decide) ?_
      refine aw_ine rfl (fun c => absurd (by decide) c) (fun _ => ?_)
      refine aw_c (v := -1) rfl (by decide) ?_
      exact aw_iret rfl rfl (q0 (by rw [htx, if_neg (fun w => pz.elim (fun z => nI_pos (by omega) z) (fun z => z.elim (fun z => nI_ge hal (by omega) z) (fun z => z.elim (fun z => nI_pos (by omega) z) (fun z => nI_ge w (by omega) z))))]))
  by_cases y3 : x = nI 3
  · subst y3
    have htx : tcX T (S 0) (nI 3) = if 1 ≤ S 0 / 8 then tcK T (S 0 - 8) else none := by unfold tcX; rw [if_pos ⟨by decide, by decide⟩, nI_clamp (by decide)]; unfold tcS; rw [if_neg (by decide), if_neg (by decide), if_neg (by decide), if_pos rfl]
    refine aw rfl rfl ?_
    refine aw_getf rfl cg_8 rfl ?_
    refine aw_getfE rfl cg_46 rfl (congrArg Value.int (hC.st 0 (by decide))) ?_
    refine aw_cs (d1 := 0) (L1 := 0) rfl rfl (by decide) (by decide) (Nat.le_of_ble_eq_true rfl) (c_X10_alongOf (by omega) ?_)
    refine aw_ist (ls' := [_, _, _, _, _]) rfl rfl ?_
    refine aw rfl rfl ?_
    refine aw_getf rfl cg_8 rfl ?_
    refine aw_getfE rfl cg_46 rfl (congrArg Value.int (hC.st 0 (by decide))) ?_
    refine aw_cs (d1 := 0) (L1 := 0) rfl rfl (by decide) (by decide) (Nat.le_of_ble_eq_true rfl) (c_X10_acrossOf (by omega) ?_)
    refine aw_ist (ls' := [_, _, _, _, _]) rfl rfl ?_
    refine aw rfl rfl ?_
    refine aw_ts (z := 3) (tgt := 70) rfl (by decide) (by decide) ?_
    refine aw_inc (c := -1) (ls' := [_, _, _, _, _]) rfl rfl (by decide) rfl ?_
    refine aw rfl rfl ?_
    refine aw rfl rfl ?_
    refine aw_getfE rfl cg_8 rfl (congrArg Value.ref hC.cx.2.2.2.2.2.1) ?_
    refine aw rfl rfl ?_
    refine aw rfl rfl ?_
    refine aw_cv (d1 := 0) (L1 := 0) rfl rfl (sa hp).1 rfl rfl (by decide) (by decide) (Nat.le_of_ble_eq_true rfl) (c_sq hC (fun a e6 z6 ea ee ha he hz ez => ?_) (fun pz => ?_))
    · refine aw_c (v := -1) rfl (by decide) ?_
      refine aw_inem rfl ?_
      have e1 := (nI_eq (by omega) (by omega)).mp ea
      have e2 := n_decI (by omega) (by omega) ee
      rw [if_pos (by omega), show S 0 - 8 = e6 * 8 + a by omega] at htx
      rw [ea, ee]
      refine aw rfl rfl ?_
      refine aw rfl rfl ?_
      refine aw_cs (d1 := 0) (L1 := 0) rfl rfl (by decide) (by decide) (Nat.le_of_ble_eq_true rfl) (c_X10_squareOf ?_)
      refine aw_ist (ls' := [_, _, _, _, _]) rfl rfl ?_
      refine aw rfl rfl ?_
      refine aw_getfE rfl cg_8 rfl (congrArg Value.ref hC.cx.2.2.2.2.2.1) ?_
      refine aw rfl rfl ?_
      refine aw_cv (d1 := 1) (L1 := 21) rfl rfl (sa hp).1 rfl rfl (by decide) (by decide) (Nat.le_of_ble_eq_true rfl) (c_X7_canLie (sa hp) (by omega) (fun _ k4 k5 => ?_) (fun k => ?_))
      · refine aw_eq rfl (fun c => absurd c (by decide)) (fun _ => ?_)
        refine aw rfl rfl ?_
        refine aw rfl rfl ?_
        exact aw_iret rfl rfl (q1 (e6 * 8 + a) (by rw [htx]; unfold tcK; rw [if_neg (fun w => w.elim k4 k5)]) (lie_on ha he h12 g0x g1x g2x k4 k5))
      · refine aw_eq rfl (fun _ => ?_) (fun c => absurd (by decide) c)
        refine aw_c (v := -1) rfl (by decide) ?_
        exact aw_iret rfl rfl (q0 (by rw [htx]; unfold tcK; rw [if_pos (k.resolve_left (by rw [ez]; exact n_m1 (by omega)))]))
    · refine aw_c (v := -1) rfl (by decide) ?_
      refine aw_ine rfl (fun c => absurd (by decide) c) (fun _ => ?_)
      refine aw_c (v := -1) rfl (by decide) ?_
      exact aw_iret rfl rfl (q0 (by rw [htx, if_neg (fun w => by rw [n_dec w] at pz; exact pz.elim (fun z => nI_pos (by omega) z) (fun z => z.elim (fun z => nI_ge hal (by omega) z) (fun z => z.elim (fun z => nI_pos (by omega) z) (fun z => nI_ge (by omega) (by omega) z))))]))
  have htx : tcX T (S 0) x = none := by
    unfold tcX
    rw [if_neg (fun w => ?_)]
    obtain ⟨n, rfl, _, hn⟩ := n_of3 w.1 w.2 (by decide) (by decide)
    have : n = 0 ∨ n = 1 ∨ n = 2 ∨ n = 3 := by omega
    rcases this with rfl | rfl | rfl | rfl <;> contradiction
  have ho := x_out (x := x) (n := 3) (by decide) (fun j hj => by
    have : j = 0 ∨ j = 1 ∨ j = 2 ∨ j = 3 := by omega
    rcases this with rfl | rfl | rfl | rfl <;> assumption)
  refine aw rfl rfl ?_
  refine aw_getf rfl cg_8 rfl ?_
  refine aw_getfE rfl cg_46 rfl (congrArg Value.int (hC.st 0 (by decide))) ?_
  refine aw_cs (d1 := 0) (L1 := 0) rfl rfl (by decide) (by decide) (Nat.le_of_ble_eq_true rfl) (c_X10_alongOf (by omega) ?_)
  refine aw_ist (ls' := [_, _, _, _, _]) rfl rfl ?_
  refine aw rfl rfl ?_
  refine aw_getf rfl cg_8 rfl ?_
  refine aw_getfE rfl cg_46 rfl (congrArg Value.int (hC.st 0 (by decide))) ?_
  refine aw_cs (d1 := 0) (L1 := 0) rfl rfl (by decide) (by decide) (Nat.le_of_ble_eq_true rfl) (c_X10_acrossOf (by omega) ?_)
  refine aw_ist (ls' := [_, _, _, _, _]) rfl rfl ?_
  refine aw rfl rfl ?_
  refine aw_ts (tgt := 76) rfl rfl (am_tg_out ho) ?_
  refine aw_c (v := -1) rfl (by decide) ?_
  exact aw_iret rfl rfl (q0 htx)
theorem c_homeF {Q : Option Value → am_H → Prop} (hC : CS g T0 u0 T1 u1 K rf p T W S u P td TD hd Z nt tp pc cc) {n : Nat} (hn : n ≤ 10) (h6 : S 6 = 0) (q : ∀ g' u0 u1 K' rf', GX g g' K.2.2.2.2 K'.2.2.2.2 → CS g' T0 u0 T1 u1 K' rf' p T W S u P td TD hd Z nt tp pc cc → FA T (K'.2.1 (rf' 6)) (Fc T (lwf W) none (hm T) n (S 4 * T.1 5)) → Q (some (.int (nI (Fc T (lwf W) none (hm T) n (S 4 * T.1 5) (S 0 * 3 + S 1) (S 2))))) (ch g' T0 u0 T1 u1 K' rf')) : AC am_P 6 155 155 [.ref 8, .int (nI n)] (ch g T0 u0 T1 u1 K rf) Q := by
  refine AC.of (ls := [_, _]) rfl ?_
  have hp := hC.cx.1
  have hG := hC.cx.2.1
  have hG0 := hG
  obtain ⟨⟨g0, g0x⟩, ⟨g1, g1x⟩, ⟨g2, g2x⟩, ⟨g3, g3x⟩, g4, ⟨g5, g5x⟩, g6, gsq, goc, gwt, gsp, gfr⟩ := hG
  obtain ⟨s0, s1, s2, s3, s4, s5, s6⟩ := hC.sc
  have hl96 := s0.1
  refine aw rfl rfl ?_
  refine aw_getf rfl cg_8 rfl ?_
  refine aw_getfE rfl cg_46 rfl (congrArg Value.int (hC.st 6 (by decide))) ?_
  refine aw_c (v := nI 2) rfl (by decide) ?_
  refine aw_inen rfl (fun c8 => ?_) (fun c8 => by omega)
  refine aw rfl rfl ?_
  refine aw_getf rfl cg_8 rfl ?_
  refine aw rfl rfl ?_
  refine aw_getf rfl cg_8 rfl ?_
  refine aw_getfE rfl cg_46 rfl (congrArg Value.int (hC.st 4 (by decide))) ?_
  refine aw rfl rfl ?_
  refine aw_c (v := -1) rfl (by decide) ?_
  refine aw_c (v := -1) rfl (by decide) ?_
  refine aw_cv (d1 := 5) (L1 := 129) rfl rfl cg_105 rfl rfl (by decide) (by decide) (Nat.le_of_ble_eq_true rfl) (c_lookC (r := none) (gq := none) hC (fun j z => nomatch z) (fun j z => nomatch z) (d := 0) ⟨hn, by decide⟩ (fun g9 u0 u1 K rf hg9 hC hfa hfl => ?_))
  refine aw rfl rfl ?_
  refine aw_getf rfl cg_8 rfl ?_
  refine aw rfl rfl ?_
  refine aw_getf rfl cg_8 rfl ?_
  refine aw_cv (d1 := 1) (L1 := 21) rfl rfl cg_46 rfl rfl (by decide) (by decide) (Nat.le_of_ble_eq_true rfl) (c_X6_lie hC.st ?_)
  refine aw rfl rfl ?_
  refine aw_getf rfl cg_8 rfl ?_
  refine aw_getfE rfl cg_46 rfl (congrArg Value.int (hC.st 2 (by decide))) ?_
  refine aw_cv (d1 := 1) (L1 := 22) rfl rfl cg_105 rfl rfl (by decide) (by decide) (Nat.le_of_ble_eq_true rfl) (c_chance hC.cx.2.2.2.2.2.2.2.2.2.2.1 hfa g4 s0 (by omega) ?_)
  exact aw_iret rfl rfl (q _ _ _ _ _ hg9 hC hfa)
theorem c_X10_touchedChance {Q : Option Value → am_H → Prop} (hC : CS g T0 u0 T1 u1 K rf p T W S u P td TD hd Z nt tp pc cc) {n : Nat} (hn : n ≤ 10) (h6 : S 6 = 0) (hfa : FA T (K.2.1 (rf 6)) (Fc T (lwf W) none (hm T) n (S 4 * T.1 5))) (q : Q (some (.int (nI (tm T (Fc T (lwf W) none (hm T) n (S 4 * T.1 5)) (S 0 * 3 + S 1) (S 2) 4)))) (ch g T0 u0 T1 u1 K rf)) : AC am_P 3 67 167 [.ref 8, .int (nI (Fc T (lwf W) none (hm T) n (S 4 * T.1 5) (S 0 * 3 + S 1) (S 2)))] (ch g T0 u0 T1 u1 K rf) Q := by
  refine AC.of (ls := [_, _, _, _, _]) rfl ?_
  have hp := hC.cx.1
  have hG := hC.cx.2.1
  have hG0 := hG
  obtain ⟨⟨g0, g0x⟩, ⟨g1, g1x⟩, ⟨g2, g2x⟩, ⟨g3, g3x⟩, g4, ⟨g5, g5x⟩, g6, gsq, goc, gwt, gsp, gfr⟩ := hG
  obtain ⟨s0, s1, s2, s3, s4, s5, s6⟩ := hC.sc
  have hl96 := s0.1
  have h6p := p6_le hn
  have hF : ∀ l w, Fc T (lwf W) none (hm T) n (S 4 * T.1 5) l w ≤ 6 ^ n := Fc_le (r := none) hG0 (fun j z => nomatch z) _ _
  refine aw rfl rfl ?_
  refine aw_ist (ls' := [_, _, _, _, _]) rfl rfl ?_
  refine aw_c (v := nI 0) rfl (by decide) ?_
  refine aw_ist (ls' := [_, _, _, _, _]) rfl rfl ?_
  refine aw_loop (α := Option Value) (ll := fun i y => [some (.ref 8), some (.int (nI (Fc T (lwf W) none (hm T) n (S 4 * T.1 5) (S 0 * 3 + S 1) (S 2)))), some (.int (nI (tm T (Fc T (lwf W) none (hm T) n (S 4 * T.1 5)) (S 0 * 3 + S 1) (S 2) i))), some (.int (nI i)), y]) (hh := fun i y => (ch g T0 u0 T1 u1 K rf)) (I := fun i y => True) (N := 4) (fun i y hi hI ih => ?_) (fun y hI => ?_) 0 none (Nat.zero_le _) trivial
  · skip
    have htm := tm_le (T := T) (l := S 0 * 3 + S 1) (w := S 2) hF i
    refine aw rfl rfl ?_
    refine aw_c (v := nI 4) rfl (by decide) ?_
    refine aw_igen rfl (fun c6 => by omega) (fun c6 => ?_)
    refine aw rfl rfl ?_
    refine aw rfl rfl ?_
    refine aw_cv (d1 := 2) (L1 := 43) rfl rfl cg_8 rfl rfl (by decide) (by decide) (Nat.le_of_ble_eq_true rfl) (c_X10_touched hC (fun s hs hls => ?_) (fun hs => ?_))
    · have hls96 := hls.1
      have hFs := hF (s * 3 + S 1) (S 2)
      have htc : tcS T ((S 0 * 3 + S 1) / 3) i = some s := by rw [show (S 0 * 3 + S 1) / 3 = S 0 by omega]; unfold tcX at hs; rw [if_pos ⟨nI_le (Nat.zero_le _) (by omega), nI_le (by omega) (by decide)⟩, nI_clamp (by omega)] at hs; exact hs
      refine aw_ist (ls' := [_, _, _, _, _]) rfl rfl ?_
      refine aw rfl rfl ?_
      refine aw_c (v := -1) rfl (by decide) ?_
      refine aw_ieqm rfl ?_
      refine aw rfl rfl ?_
      refine aw rfl rfl ?_
      refine aw_getf rfl cg_8 rfl ?_
      refine aw rfl rfl ?_
      refine aw rfl rfl ?_
      refine aw_getf rfl cg_8 rfl ?_
      refine aw_getfE rfl cg_46 rfl (congrArg Value.int (hC.st 1 (by decide))) ?_
      refine aw_cs (d1 := 0) (L1 := 0) rfl rfl (by decide) (by decide) (Nat.le_of_ble_eq_true rfl) (c_X10_lieOf ?_)
      refine aw rfl rfl ?_
      refine aw_getf rfl cg_8 rfl ?_
      refine aw_getfE rfl cg_46 rfl (congrArg Value.int (hC.st 2 (by decide))) ?_
      refine aw_cv (d1 := 1) (L1 := 22) rfl rfl cg_105 rfl rfl (by decide) (by decide) (Nat.le_of_ble_eq_true rfl) (c_chance hC.cx.2.2.2.2.2.2.2.2.2.2.1 hfa g4 hls (by omega) ?_)
      refine aw rfl rfl ?_
      rw [n_max (by omega) (by omega)]
      refine aw_ist (ls' := [_, _, _, _, _]) rfl rfl ?_
      refine aw_incn (c := 1) (ls' := [_, _, _, _, _]) rfl rfl (by decide) rfl ?_
      refine aw rfl rfl ?_
      have e5 : tm T (Fc T (lwf W) none (hm T) n (S 4 * T.1 5)) (S 0 * 3 + S 1) (S 2) (i + 1) = if tm T (Fc T (lwf W) none (hm T) n (S 4 * T.1 5)) (S 0 * 3 + S 1) (S 2) i < Fc T (lwf W) none (hm T) n (S 4 * T.1 5) (s * 3 + S 1) (S 2) then Fc T (lwf W) none (hm T) n (S 4 * T.1 5) (s * 3 + S 1) (S 2) else tm T (Fc T (lwf W) none (hm T) n (S 4 * T.1 5)) (S 0 * 3 + S 1) (S 2) i := by rw [tm, htc]; show (if _ < _ then _ else _) = _; rw [show (S 0 * 3 + S 1) % 3 = S 1 by omega]
      have ih := ih (some (.int (nI s))) trivial
      rw [e5] at ih
      exact ih
    · have htc : tcS T ((S 0 * 3 + S 1) / 3) i = none := by rw [show (S 0 * 3 + S 1) / 3 = S 0 by omega]; unfold tcX at hs; rw [if_pos ⟨nI_le (Nat.zero_le _) (by omega), nI_le (by omega) (by decide)⟩, nI_clamp (by omega)] at hs; exact hs
      refine aw_ist (ls' := [_, _, _, _, _]) rfl rfl ?_
      refine aw rfl rfl ?_
      refine aw_c (v := -1) rfl (by decide) ?_
      refine aw_ieq rfl (fun _ => ?_) (fun c => absurd (by decide) c)
      refine aw_incn (c := 1) (ls' := [_, _, _, _, _]) rfl rfl (by decide) rfl ?_
      refine aw rfl rfl ?_
      have e5 : tm T (Fc T (lwf W) none (hm T) n (S 4 * T.1 5)) (S 0 * 3 + S 1) (S 2) (i + 1) = tm T (Fc T (lwf W) none (hm T) n (S 4 * T.1 5)) (S 0 * 3 + S 1) (S 2) i := by rw [tm, htc]
      have ih := ih (some (.int (-1))) trivial
      rw [e5] at ih
      exact ih
  · skip
    refine aw rfl rfl ?_
    refine aw_c (v := nI 4) rfl (by decide) ?_
    refine aw_ige rfl (fun _ => ?_) (fun c => absurd (by decide) c)
    refine aw rfl rfl ?_
    exact aw_iret rfl rfl q
theorem c_X10_worth {Q : Option Value → am_H → Prop} (hC : CS g T0 u0 T1 u1 K rf p T W S u P td TD hd Z nt tp pc cc) {x : Int32} {bl b : Bool} (q : ∀ g' u0 u1 K' rf', GX g g' K.2.2.2.2 K'.2.2.2.2 → CS g' T0 u0 T1 u1 K' rf' p T W S u P td TD hd Z nt tp pc cc → Q (some (.int (a_worth T (lwf W) S x bl b))) (ch g' T0 u0 T1 u1 K' rf')) : AC am_P 7 176 166 [.ref 8, .int x, .int (bI bl), .int (bI b)] (ch g T0 u0 T1 u1 K rf) Q := by
  refine AC.of (ls := [_, _, _, _, _, _]) rfl ?_
  have hp := hC.cx.1
  have hG := hC.cx.2.1
  have hG0 := hG
  obtain ⟨⟨g0, g0x⟩, ⟨g1, g1x⟩, ⟨g2, g2x⟩, ⟨g3, g3x⟩, g4, ⟨g5, g5x⟩, g6, gsq, goc, gwt, gsp, gfr⟩ := hG
  obtain ⟨s0, s1, s2, s3, s4, s5, s6⟩ := hC.sc
  have hl96 := s0.1
  unfold a_worth at q
  have hS6 : S 6 ≤ 2 := by rcases s6 with h | h | h <;> omega
  cases bl
  · skip
    refine aw rfl rfl ?_
    refine aw_cs (d1 := 0) (L1 := 0) rfl rfl (by decide) (by decide) (Nat.le_of_ble_eq_true rfl) (c_X10_isSpan (fun n e hn => ?_) (fun p9 => ?_))
    · refine aw_ne rfl (fun _ => ?_) (fun c => absurd c (by decide))
      subst e
      rw [sp_in (Nat.zero_le _) hn (by decide)] at q
      have h6p := p6_le hn
      have h6q := p6_pos n
      have hF : ∀ l w, Fc T (lwf W) none (hm T) n (S 4 * T.1 5) l w ≤ 6 ^ n := Fc_le (r := none) hG0 (fun j z => nomatch z) _ _
      have hFx := hF (S 0 * 3 + S 1) (S 2)
      refine aw rfl rfl ?_
      refine aw_getf rfl cg_8 rfl ?_
      refine aw_getfE rfl cg_46 rfl (congrArg Value.int (hC.st 6 (by decide))) ?_
      refine aw_eqn rfl (fun c16 => ?_) (fun c16 => ?_)
      · refine aw rfl rfl ?_
        refine aw rfl rfl ?_
        refine aw_cv (d1 := 6) (L1 := 155) rfl rfl cg_8 rfl rfl (by decide) (by decide) (Nat.le_of_ble_eq_true rfl) (c_homeF hC hn c16 (fun g9 u0 u1 K rf hg9 hC hfa => ?_))
        have htm := tm_le (T := T) (l := S 0 * 3 + S 1) (w := S 2) hF 4
        have htg := tm_ge (T := T) (F := Fc T (lwf W) none (hm T) n (S 4 * T.1 5)) (l := S 0 * 3 + S 1) (w := S 2) 4
        refine aw_ist (ls' := [_, _, _, _, _, _]) rfl rfl ?_
        refine aw rfl rfl ?_
        refine aw_eq rfl (fun _ => ?_) (fun c => absurd (by decide) c)
        refine aw rfl rfl ?_
        refine aw rfl rfl ?_
        refine aw_cv (d1 := 3) (L1 := 67) rfl rfl cg_8 rfl rfl (by decide) (by decide) (Nat.le_of_ble_eq_true rfl) (c_X10_touchedChance hC hn c16 hfa ?_)
        refine aw_ist (ls' := [_, _, _, _, _, _]) rfl rfl ?_
        refine aw rfl rfl ?_
        refine aw rfl rfl ?_
        refine aw_subn rfl (by omega) ?_
        refine aw rfl rfl ?_
        refine aw rfl rfl ?_
        refine aw_cs (d1 := 1) (L1 := 25) rfl rfl (by decide) (by decide) (Nat.le_of_ble_eq_true rfl) (c_X10_fraction hC.six hn (by omega) ?_)
        exact aw_iret rfl rfl (by rw [if_pos c16] at q; exact q _ _ _ _ _ hg9 hC)
      · refine aw_c (v := nI 0) rfl (by decide) ?_
        refine aw rfl rfl ?_
        refine aw rfl rfl ?_
        refine aw_cs (d1 := 1) (L1 := 25) rfl rfl (by decide) (by decide) (Nat.le_of_ble_eq_true rfl) (c_X10_fraction (a := 0) hC.six hn (Nat.zero_le _) ?_)
        exact aw_iret rfl rfl (by rw [if_neg c16, ← fr_0 h6q] at q; exact q _ _ _ _ _ GX.rf hC)
    · refine aw_ne rfl (fun c => absurd (by decide) c) (fun _ => ?_)
      refine aw_c (v := -1) rfl (by decide) ?_
      exact aw_iret rfl rfl (by rw [sp_out (n_spo p9)] at q; exact q _ _ _ _ _ GX.rf hC)
  · skip
    refine aw rfl rfl ?_
    refine aw_cs (d1 := 0) (L1 := 0) rfl rfl (by decide) (by decide) (Nat.le_of_ble_eq_true rfl) (c_X10_isSpan (fun n e hn => ?_) (fun p9 => ?_))
    · refine aw_ne rfl (fun _ => ?_) (fun c => absurd c (by decide))
      subst e
      rw [sp_in (Nat.zero_le _) hn (by decide)] at q
      have h6p := p6_le hn
      have h6q := p6_pos n
      have hF : ∀ l w, Fc T (lwf W) none (hm T) n (S 4 * T.1 5) l w ≤ 6 ^ n := Fc_le (r := none) hG0 (fun j z => nomatch z) _ _
      have hFx := hF (S 0 * 3 + S 1) (S 2)
      refine aw rfl rfl ?_
      refine aw_getf rfl cg_8 rfl ?_
      refine aw_getfE rfl cg_46 rfl (congrArg Value.int (hC.st 6 (by decide))) ?_
      refine aw_eqn rfl (fun c16 => ?_) (fun c16 => ?_)
      · refine aw rfl rfl ?_
        refine aw rfl rfl ?_
        refine aw_cv (d1 := 6) (L1 := 155) rfl rfl cg_8 rfl rfl (by decide) (by decide) (Nat.le_of_ble_eq_true rfl) (c_homeF hC hn c16 (fun g9 u0 u1 K rf hg9 hC hfa => ?_))
        have hFm : Fc T (lwf W) none (hm T) n (S 4 * T.1 5) (S 0 * 3 + S 1) (S 2) ≤ Fc T (lwf W) none (hm T) n (S 4 * T.1 5) (S 0 * 3 + S 1) (S 2 + 1) := Fc_mono _ _ _ _
        have hF1 := hF (S 0 * 3 + S 1) (S 2 + 1)
        refine aw_ist (ls' := [_, _, _, _, _, _]) rfl rfl ?_
        refine aw rfl rfl ?_
        refine aw_eq rfl (fun c => absurd c (by decide)) (fun _ => ?_)
        refine aw rfl rfl ?_
        refine aw_getf rfl cg_8 rfl ?_
        refine aw rfl rfl ?_
        refine aw_getf rfl cg_8 rfl ?_
        refine aw_cv (d1 := 1) (L1 := 21) rfl rfl cg_46 rfl rfl (by decide) (by decide) (Nat.le_of_ble_eq_true rfl) (c_X6_lie hC.st ?_)
        refine aw rfl rfl ?_
        refine aw_getf rfl cg_8 rfl ?_
        refine aw_getfE rfl cg_46 rfl (congrArg Value.int (hC.st 2 (by decide))) ?_
        refine aw_c (v := nI 1) rfl (by decide) ?_
        refine aw_addn rfl ?_
        refine aw_cv (d1 := 1) (L1 := 22) rfl rfl cg_105 rfl rfl (by decide) (by decide) (Nat.le_of_ble_eq_true rfl) (c_chance hC.cx.2.2.2.2.2.2.2.2.2.2.1 hfa g4 s0 (by omega) ?_)
        refine aw rfl rfl ?_
        refine aw_ist (ls' := [_, _, _, _, _, _]) rfl rfl ?_
        refine aw rfl rfl ?_
        refine aw rfl rfl ?_
        refine aw_subn rfl (by omega) ?_
        refine aw rfl rfl ?_
        refine aw rfl rfl ?_
        refine aw_cs (d1 := 1) (L1 := 25) rfl rfl (by decide) (by decide) (Nat.le_of_ble_eq_true rfl) (c_X10_fraction hC.six hn (by omega) ?_)
        exact aw_iret rfl rfl (by rw [if_pos c16] at q; exact q _ _ _ _ _ hg9 hC)
      · refine aw_c (v := nI 0) rfl (by decide) ?_
        refine aw rfl rfl ?_
        refine aw rfl rfl ?_
        refine aw_cs (d1 := 1) (L1 := 25) rfl rfl (by decide) (by decide) (Nat.le_of_ble_eq_true rfl) (c_X10_fraction (a := 0) hC.six hn (Nat.zero_le _) ?_)
        exact aw_iret rfl rfl (by rw [if_neg c16, ← fr_0 h6q] at q; exact q _ _ _ _ _ GX.rf hC)
    · refine aw_ne rfl (fun c => absurd (by decide) c) (fun _ => ?_)
      refine aw_c (v := -1) rfl (by decide) ?_
      exact aw_iret rfl rfl (by rw [sp_out (n_spo p9)] at q; exact q _ _ _ _ _ GX.rf hC)
theorem c_X10_face {Q : Option Value → am_H → Prop} (hC : CS g T0 u0 T1 u1 K rf p T W S u P td TD hd Z nt tp pc cc) {x : Int32} (q : ∀ g' u0 u1 K' rf', GX g g' K.2.2.2.2 K'.2.2.2.2 → CS g' T0 u0 T1 u1 K' rf' p T W S u P td TD hd Z nt tp pc cc → Q (some (.int (a_face T (lwf W) S x))) (ch g' T0 u0 T1 u1 K' rf')) : AC am_P 6 155 168 [.ref 8, .int x] (ch g T0 u0 T1 u1 K rf) Q := by
  refine AC.of (ls := [_, _, _, _, _, _]) rfl ?_
  have hp := hC.cx.1
  have hG := hC.cx.2.1
  have hG0 := hG
  obtain ⟨⟨g0, g0x⟩, ⟨g1, g1x⟩, ⟨g2, g2x⟩, ⟨g3, g3x⟩, g4, ⟨g5, g5x⟩, g6, gsq, goc, gwt, gsp, gfr⟩ := hG
  obtain ⟨s0, s1, s2, s3, s4, s5, s6⟩ := hC.sc
  have hl96 := s0.1
  unfold a_face at q
  have hS6 : S 6 ≤ 2 := by rcases s6 with h | h | h <;> omega
  refine aw rfl rfl ?_
  refine aw_cs (d1 := 0) (L1 := 0) rfl rfl (by decide) (by decide) (Nat.le_of_ble_eq_true rfl) (c_X10_isSpan (fun n e hn => ?_) (fun p9 => ?_))
  · refine aw_ne rfl (fun _ => ?_) (fun c => absurd c (by decide))
    subst e
    rw [sp_in (Nat.zero_le _) hn (by decide)] at q
    have h6p := p6_le hn
    have h6q := p6_pos n
    have hF : ∀ l w, Fc T (lwf W) none (hm T) n (S 4 * T.1 5) l w ≤ 6 ^ n := Fc_le (r := none) hG0 (fun j z => nomatch z) _ _
    have hFx := hF (S 0 * 3 + S 1) (S 2)
    refine aw rfl rfl ?_
    refine aw_getf rfl cg_8 rfl ?_
    refine aw_getfE rfl cg_46 rfl (congrArg Value.int (hC.st 6 (by decide))) ?_
    refine aw_eqn rfl (fun c16 => ?_) (fun c16 => ?_)
    · rw [if_pos c16] at q
      refine aw rfl rfl ?_
      refine aw_getf rfl cg_8 rfl ?_
      refine aw rfl rfl ?_
      refine aw_getf rfl cg_8 rfl ?_
      refine aw_getfE rfl cg_46 rfl (congrArg Value.int (hC.st 4 (by decide))) ?_
      refine aw rfl rfl ?_
      refine aw_c (v := -1) rfl (by decide) ?_
      refine aw_c (v := -1) rfl (by decide) ?_
      refine aw_cv (d1 := 5) (L1 := 129) rfl rfl cg_105 rfl rfl (by decide) (by decide) (Nat.le_of_ble_eq_true rfl) (c_lookC (r := none) (gq := none) hC (fun j z => nomatch z) (fun j z => nomatch z) (d := 0) ⟨hn, by decide⟩ (fun g9 u0 u1 K rf hg9 hC hfa hfl => ?_))
      refine aw_c (v := -1) rfl (by decide) ?_
      refine aw_ist (ls' := [_, _, _, _, _, _]) rfl rfl ?_
      refine aw_c (v := nI 0) rfl (by decide) ?_
      refine aw_ist (ls' := [_, _, _, _, _, _]) rfl rfl ?_
      refine aw_c (v := nI 0) rfl (by decide) ?_
      refine aw_ist (ls' := [_, _, _, _, _, _]) rfl rfl ?_
      refine aw_loop (α := Option Value) (ll := fun i y => [some (.ref 8), some (.int (nI n)), some (.int (bs2 (bs (fun f => Fc T (lwf W) none (hm T) n (S 4 * T.1 5) (S 0 * 3 + f) (S 2)) tt i))), some (.int (nI (bsA (bs (fun f => Fc T (lwf W) none (hm T) n (S 4 * T.1 5) (S 0 * 3 + f) (S 2)) tt i)))), some (.int (nI i)), y]) (hh := fun i y => (ch g9 T0 u0 T1 u1 K rf)) (I := fun i y => True) (N := T.1 2) (fun i y hi hI ih => ?_) (fun y hI => ?_) 0 none (Nat.zero_le _) trivial
      · skip
        have hb : ∀ j, (fun f => Fc T (lwf W) none (hm T) n (S 4 * T.1 5) (S 0 * 3 + f) (S 2)) j < 2147483648 := fun j => by have := hF (S 0 * 3 + j) (S 2); dsimp only; omega
        have hl1 : lieOK T (S 0 * 3 + i) := lie_face s0 (by omega) hi g2x
        have hl196 := hl1.1
        refine aw rfl rfl ?_
        refine aw rfl rfl ?_
        refine aw_getfE rfl cg_8 rfl (congrArg Value.ref hC.cx.2.2.2.2.2.1) ?_
        refine aw_getf rfl (sa hp).1 rfl ?_
        refine aw_igen rfl (fun c55 => by omega) (fun c55 => ?_)
        refine aw rfl rfl ?_
        refine aw_getf rfl cg_8 rfl ?_
        refine aw rfl rfl ?_
        refine aw_getf rfl cg_8 rfl ?_
        refine aw_getfE rfl cg_46 rfl (congrArg Value.int (hC.st 0 (by decide))) ?_
        refine aw rfl rfl ?_
        refine aw_cs (d1 := 0) (L1 := 0) rfl rfl (by decide) (by decide) (Nat.le_of_ble_eq_true rfl) (c_X10_lieOf ?_)
        refine aw rfl rfl ?_
        refine aw_getf rfl cg_8 rfl ?_
        refine aw_getfE rfl cg_46 rfl (congrArg Value.int (hC.st 2 (by decide))) ?_
        refine aw_cv (d1 := 1) (L1 := 22) rfl rfl cg_105 rfl rfl (by decide) (by decide) (Nat.le_of_ble_eq_true rfl) (c_chance hC.cx.2.2.2.2.2.2.2.2.2.2.1 hfa g4 hl1 (by omega) ?_)
        refine aw_ist (ls' := [_, _, _, _, _, _]) rfl rfl ?_
        refine aw rfl rfl ?_
        refine aw rfl rfl ?_
        refine aw_ile rfl (fun c89 => ?_) (fun c89 => ?_)
        · refine aw_incn (c := 1) (ls' := [_, _, _, _, _, _]) rfl rfl (by decide) rfl ?_
          refine aw rfl rfl ?_
          have e5 : (bs (fun f => Fc T (lwf W) none (hm T) n (S 4 * T.1 5) (S 0 * 3 + f) (S 2)) tt (i + 1)) = (bs (fun f => Fc T (lwf W) none (hm T) n (S 4 * T.1 5) (S 0 * 3 + f) (S 2)) tt i) := bs_no hb rfl c89
          have ih := ih (some (.int (nI (Fc T (lwf W) none (hm T) n (S 4 * T.1 5) (S 0 * 3 + i) (S 2))))) trivial
          rw [e5] at ih
          exact ih
        · refine aw rfl rfl ?_
          refine aw_ist (ls' := [_, _, _, _, _, _]) rfl rfl ?_
          refine aw rfl rfl ?_
          refine aw_ist (ls' := [_, _, _, _, _, _]) rfl rfl ?_
          refine aw_incn (c := 1) (ls' := [_, _, _, _, _, _]) rfl rfl (by decide) rfl ?_
          refine aw rfl rfl ?_
          have e5 : (bs (fun f => Fc T (lwf W) none (hm T) n (S 4 * T.1 5) (S 0 * 3 + f) (S 2)) tt (i + 1)) = some (i, (Fc T (lwf W) none (hm T) n (S 4 * T.1 5) (S 0 * 3 + i) (S 2))) := bs_yes hb rfl c89
          have ih := ih (some (.int (nI (Fc T (lwf W) none (hm T) n (S 4 * T.1 5) (S 0 * 3 + i) (S 2))))) trivial
          rw [e5] at ih
          exact ih
      · skip
        refine aw rfl rfl ?_
        refine aw rfl rfl ?_
        refine aw_getfE rfl cg_8 rfl (congrArg Value.ref hC.cx.2.2.2.2.2.1) ?_
        refine aw_getf rfl (sa hp).1 rfl ?_
        refine aw_igen rfl (fun c55 => ?_) (fun c55 => by omega)
        refine aw rfl rfl ?_
        exact aw_iret rfl rfl (q _ _ _ _ _ hg9 hC)
    · rw [if_neg c16] at q
      refine aw_c (v := -2) rfl (by decide) ?_
      exact aw_iret rfl rfl (q _ _ _ _ _ GX.rf hC)
  · refine aw_ne rfl (fun c => absurd (by decide) c) (fun _ => ?_)
    refine aw_c (v := -1) rfl (by decide) ?_
    exact aw_iret rfl rfl (by rw [sp_out (n_spo p9)] at q; exact q _ _ _ _ _ GX.rf hC)
theorem c_X10_side {Q : Option Value → am_H → Prop} (hC : CS g T0 u0 T1 u1 K rf p T W S u P td TD hd Z nt tp pc cc) {x : Int32} (q : ∀ g' u0 u1 K' rf', GX g g' K.2.2.2.2 K'.2.2.2.2 → CS g' T0 u0 T1 u1 K' rf' p T W S u P td TD hd Z nt tp pc cc → Q (some (.int (a_side T (lwf W) S x))) (ch g' T0 u0 T1 u1 K' rf')) : AC am_P 6 155 169 [.ref 8, .int x] (ch g T0 u0 T1 u1 K rf) Q := by
  refine AC.of (ls := [_, _, _, _, _, _, _]) rfl ?_
  have hp := hC.cx.1
  have hG := hC.cx.2.1
  have hG0 := hG
  obtain ⟨⟨g0, g0x⟩, ⟨g1, g1x⟩, ⟨g2, g2x⟩, ⟨g3, g3x⟩, g4, ⟨g5, g5x⟩, g6, gsq, goc, gwt, gsp, gfr⟩ := hG
  obtain ⟨s0, s1, s2, s3, s4, s5, s6⟩ := hC.sc
  have hl96 := s0.1
  unfold a_side at q
  have hS6 : S 6 ≤ 2 := by rcases s6 with h | h | h <;> omega
  have hs0 : S 0 < 32 := by omega
  have ha : S 0 % 8 < T.1 0 := by have := s0.2.1; rw [show (S 0 * 3 + S 1) / 3 = S 0 by omega] at this; exact this
  have hac : S 0 / 8 < T.1 1 := by have := s0.2.2.1; rw [show (S 0 * 3 + S 1) / 3 = S 0 by omega] at this; exact this
  have h12 : S 1 < T.1 2 := by have := s0.2.2.2.1; omega
  refine aw rfl rfl ?_
  refine aw_cs (d1 := 0) (L1 := 0) rfl rfl (by decide) (by decide) (Nat.le_of_ble_eq_true rfl) (c_X10_isSpan (fun n e hn => ?_) (fun p9 => ?_))
  · refine aw_ne rfl (fun _ => ?_) (fun c => absurd c (by decide))
    subst e
    rw [sp_in (Nat.zero_le _) hn (by decide)] at q
    have h6p := p6_le hn
    have h6q := p6_pos n
    have hF : ∀ l w, Fc T (lwf W) none (hm T) n (S 4 * T.1 5) l w ≤ 6 ^ n := Fc_le (r := none) hG0 (fun j z => nomatch z) _ _
    have hFx := hF (S 0 * 3 + S 1) (S 2)
    refine aw rfl rfl ?_
    refine aw_getf rfl cg_8 rfl ?_
    refine aw_getfE rfl cg_46 rfl (congrArg Value.int (hC.st 6 (by decide))) ?_
    refine aw_eqn rfl (fun c16 => ?_) (fun c16 => ?_)
    · rw [if_pos c16] at q
      refine aw rfl rfl ?_
      refine aw_getf rfl cg_8 rfl ?_
      refine aw rfl rfl ?_
      refine aw_getf rfl cg_8 rfl ?_
      refine aw_getfE rfl cg_46 rfl (congrArg Value.int (hC.st 4 (by decide))) ?_
      refine aw rfl rfl ?_
      refine aw_c (v := -1) rfl (by decide) ?_
      refine aw_c (v := -1) rfl (by decide) ?_
      refine aw_cv (d1 := 5) (L1 := 129) rfl rfl cg_105 rfl rfl (by decide) (by decide) (Nat.le_of_ble_eq_true rfl) (c_lookC (r := none) (gq := none) hC (fun j z => nomatch z) (fun j z => nomatch z) (d := 0) ⟨hn, by decide⟩ (fun g9 u0 u1 K rf hg9 hC hfa hfl => ?_))
      refine aw_c (v := -1) rfl (by decide) ?_
      refine aw_ist (ls' := [_, _, _, _, _, _, _]) rfl rfl ?_
      refine aw_c (v := nI 0) rfl (by decide) ?_
      refine aw_ist (ls' := [_, _, _, _, _, _, _]) rfl rfl ?_
      refine aw_c (v := nI 0) rfl (by decide) ?_
      refine aw_ist (ls' := [_, _, _, _, _, _, _]) rfl rfl ?_
      refine aw_loop (α := Option Value × Option Value) (ll := fun i y => [some (.ref 8), some (.int (nI n)), some (.int (bs2 (bs (sdf (Fc T (lwf W) none (hm T) n (S 4 * T.1 5)) (S 0 % 8) (S 1) (S 2)) (sdc T (S 0 % 8)) i))), some (.int (nI (bsA (bs (sdf (Fc T (lwf W) none (hm T) n (S 4 * T.1 5)) (S 0 % 8) (S 1) (S 2)) (sdc T (S 0 % 8)) i)))), some (.int (nI i)), y.1, y.2]) (hh := fun i y => (ch g9 T0 u0 T1 u1 K rf)) (I := fun i y => True) (N := T.1 1) (fun i y hi hI ih => ?_) (fun y hI => ?_) 0 (none, none) (Nat.zero_le _) trivial
      · skip
        have hb : ∀ j, sdf (Fc T (lwf W) none (hm T) n (S 4 * T.1 5)) (S 0 % 8) (S 1) (S 2) j < 2147483648 := fun j => by have := hF ((j * 8 + S 0 % 8) * 3 + S 1) (S 2); unfold sdf; omega
        have hge : (-1 : Int32) ≤ bs2 (bs (sdf (Fc T (lwf W) none (hm T) n (S 4 * T.1 5)) (S 0 % 8) (S 1) (S 2)) (sdc T (S 0 % 8)) i) := bs2_ge (fun p hp9 => by have := bs_lt _ _ _ _ hp9; rw [this.2.1]; exact hb _)
        refine aw rfl rfl ?_
        refine aw rfl rfl ?_
        refine aw_getfE rfl cg_8 rfl (congrArg Value.ref hC.cx.2.2.2.2.2.1) ?_
        refine aw_getf rfl (sa hp).1 rfl ?_
        refine aw_igen rfl (fun c55 => by omega) (fun c55 => ?_)
        refine aw rfl rfl ?_
        refine aw_getf rfl cg_8 rfl ?_
        refine aw_getfE rfl cg_46 rfl (congrArg Value.int (hC.st 0 (by decide))) ?_
        refine aw_cs (d1 := 0) (L1 := 0) rfl rfl (by decide) (by decide) (Nat.le_of_ble_eq_true rfl) (c_X10_alongOf (by omega) ?_)
        refine aw rfl rfl ?_
        refine aw_cs (d1 := 0) (L1 := 0) rfl rfl (by decide) (by decide) (Nat.le_of_ble_eq_true rfl) (c_X10_squareOf ?_)
        refine aw_ist (ls' := [_, _, _, _, _, _, _]) rfl rfl ?_
        refine aw rfl rfl ?_
        refine aw_getfE rfl cg_8 rfl (congrArg Value.ref hC.cx.2.2.2.2.2.1) ?_
        refine aw rfl rfl ?_
        refine aw_cv (d1 := 1) (L1 := 21) rfl rfl (sa hp).1 rfl rfl (by decide) (by decide) (Nat.le_of_ble_eq_true rfl) (c_X7_canLie (sa hp) (by omega) (fun _ k4 k5 => ?_) (fun k => ?_))
        · have hcn : sdc T (S 0 % 8) i = true := by unfold sdc; rw [decide_eq_false k4, decide_eq_false k5]; rfl
          have hl1 : lieOK T ((i * 8 + S 0 % 8) * 3 + S 1) := lie_on ha hi h12 g0x g1x g2x k4 k5
          have hl196 := hl1.1
          refine aw_eq rfl (fun c => absurd c (by decide)) (fun _ => ?_)
          refine aw rfl rfl ?_
          refine aw_getf rfl cg_8 rfl ?_
          refine aw rfl rfl ?_
          refine aw rfl rfl ?_
          refine aw_getf rfl cg_8 rfl ?_
          refine aw_getfE rfl cg_46 rfl (congrArg Value.int (hC.st 1 (by decide))) ?_
          refine aw_cs (d1 := 0) (L1 := 0) rfl rfl (by decide) (by decide) (Nat.le_of_ble_eq_true rfl) (c_X10_lieOf ?_)
          refine aw rfl rfl ?_
          refine aw_getf rfl cg_8 rfl ?_
          refine aw_getfE rfl cg_46 rfl (congrArg Value.int (hC.st 2 (by decide))) ?_
          refine aw_cv (d1 := 1) (L1 := 22) rfl rfl cg_105 rfl rfl (by decide) (by decide) (Nat.le_of_ble_eq_true rfl) (c_chance hC.cx.2.2.2.2.2.2.2.2.2.2.1 hfa g4 hl1 (by omega) ?_)
          refine aw rfl rfl ?_
          refine aw_ist (ls' := [_, _, _, _, _, _, _]) rfl rfl ?_
          refine aw rfl rfl ?_
          refine aw rfl rfl ?_
          refine aw_ile rfl (fun c122 => ?_) (fun c122 => ?_)
          · refine aw_incn (c := 1) (ls' := [_, _, _, _, _, _, _]) rfl rfl (by decide) rfl ?_
            refine aw rfl rfl ?_
            have e5 : (bs (sdf (Fc T (lwf W) none (hm T) n (S 4 * T.1 5)) (S 0 % 8) (S 1) (S 2)) (sdc T (S 0 % 8)) (i + 1)) = (bs (sdf (Fc T (lwf W) none (hm T) n (S 4 * T.1 5)) (S 0 % 8) (S 1) (S 2)) (sdc T (S 0 % 8)) i) := bs_no hb hcn c122
            have ih := ih (some (.int (nI (i * 8 + S 0 % 8))), some (.int (nI (Fc T (lwf W) none (hm T) n (S 4 * T.1 5) ((i * 8 + S 0 % 8) * 3 + S 1) (S 2))))) trivial
            rw [e5] at ih
            exact ih
          · refine aw rfl rfl ?_
            refine aw_ist (ls' := [_, _, _, _, _, _, _]) rfl rfl ?_
            refine aw rfl rfl ?_
            refine aw_ist (ls' := [_, _, _, _, _, _, _]) rfl rfl ?_
            refine aw_incn (c := 1) (ls' := [_, _, _, _, _, _, _]) rfl rfl (by decide) rfl ?_
            refine aw rfl rfl ?_
            have e5 : (bs (sdf (Fc T (lwf W) none (hm T) n (S 4 * T.1 5)) (S 0 % 8) (S 1) (S 2)) (sdc T (S 0 % 8)) (i + 1)) = some (i, sdf (Fc T (lwf W) none (hm T) n (S 4 * T.1 5)) (S 0 % 8) (S 1) (S 2) i) := bs_yes hb hcn c122
            have ih := ih (some (.int (nI (i * 8 + S 0 % 8))), some (.int (nI (Fc T (lwf W) none (hm T) n (S 4 * T.1 5) ((i * 8 + S 0 % 8) * 3 + S 1) (S 2))))) trivial
            rw [e5] at ih
            exact ih
        · have hcn : sdc T (S 0 % 8) i = false := by obtain ⟨z, hz, ez⟩ := (gsq (i * 8 + S 0 % 8) (by omega)).1 ⟨by omega, by omega⟩; unfold sdc; rcases k with k | k | k; rw [ez] at k; exact absurd k (n_m1 (by omega)); rw [decide_eq_true k]; rfl; rw [decide_eq_true k, Bool.not_true, Bool.and_false]
          refine aw_eq rfl (fun _ => ?_) (fun c => absurd (by decide) c)
          refine aw_c (v := -1) rfl (by decide) ?_
          refine aw_ist (ls' := [_, _, _, _, _, _, _]) rfl rfl ?_
          refine aw rfl rfl ?_
          refine aw rfl rfl ?_
          refine aw_ile rfl (fun c122 => ?_) (fun c122 => absurd hge c122)
          refine aw_incn (c := 1) (ls' := [_, _, _, _, _, _, _]) rfl rfl (by decide) rfl ?_
          refine aw rfl rfl ?_
          have e5 : (bs (sdf (Fc T (lwf W) none (hm T) n (S 4 * T.1 5)) (S 0 % 8) (S 1) (S 2)) (sdc T (S 0 % 8)) (i + 1)) = (bs (sdf (Fc T (lwf W) none (hm T) n (S 4 * T.1 5)) (S 0 % 8) (S 1) (S 2)) (sdc T (S 0 % 8)) i) := bs_skip hcn
          have ih := ih (some (.int (nI (i * 8 + S 0 % 8))), some (.int (-1))) trivial
          rw [e5] at ih
          exact ih
      · skip
        have hsd : sdc T (S 0 % 8) (S 0 / 8) = true := by
          have h9 := s0.2.2.2.2
          rw [show (S 0 * 3 + S 1) / 3 = S 0 by omega] at h9
          unfold sdc
          rw [show S 0 / 8 * 8 + S 0 % 8 = S 0 by omega, decide_eq_false h9.1, decide_eq_false h9.2]
          rfl
        obtain ⟨p9, hp9⟩ := bs_ex (f := sdf (Fc T (lwf W) none (hm T) n (S 4 * T.1 5)) (S 0 % 8) (S 1) (S 2)) hsd (T.1 1) hac
        rw [hp9] at q ⊢
        show AW am_P _ _ _ _ [_, _, _, some (.int (nI p9.1)), _, _, _] _ _ _
        refine aw rfl rfl ?_
        refine aw rfl rfl ?_
        refine aw_getfE rfl cg_8 rfl (congrArg Value.ref hC.cx.2.2.2.2.2.1) ?_
        refine aw_getf rfl (sa hp).1 rfl ?_
        refine aw_igen rfl (fun c55 => ?_) (fun c55 => by omega)
        refine aw rfl rfl ?_
        exact aw_iret rfl rfl (q _ _ _ _ _ hg9 hC)
    · rw [if_neg c16] at q
      refine aw_c (v := -2) rfl (by decide) ?_
      exact aw_iret rfl rfl (q _ _ _ _ _ GX.rf hC)
  · refine aw_ne rfl (fun c => absurd (by decide) c) (fun _ => ?_)
    refine aw_c (v := -1) rfl (by decide) ?_
    exact aw_iret rfl rfl (by rw [sp_out (n_spo p9)] at q; exact q _ _ _ _ _ GX.rf hC)
end C1
