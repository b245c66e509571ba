/-! ===== the reference: tell, forget, hold, restore, place, feed, back ===== -/
def n_td (td : Nat) (T : Sd) (x y : Int32) : Nat := if td = 5 ∨ pl_in T x y (fun _ _ => nI 1) = -1 then td else td + 1
def n_TD (td : Nat) (TD : Nat → Nat) (x y : Int32) : Nat → Nat := fun i => if i = td then sqXY x y else TD i
def a_tell (td : Nat) (T : Sd) (x y : Int32) : Int32 := if td = 5 then -1 else pl_in T x y fun _ _ => nI td
def byt (w : Int32) (s : Nat) : Int32 := vp_nar .byte (w >>> (nI s &&& 31)).toInt8.toInt32
def ptp (nt : Nat) (tp : Nat → Int32) (w : Int32) : Nat → Int32 := upd (upd (upd (upd tp nt (byt w 24)) (nt + 1) (byt w 16)) (nt + 2) (byt w 8)) (nt + 3) (byt w 0)
theorem NR.congr {T : Sd} {f f' : Nat → Int32} {S : Nat → Nat} (h : NR T f S) (hf : ∀ j, j < 10 → f' j = f j) : NR T f' S := by
  unfold NR at h ⊢
  rw [hf 0 (by decide), hf 1 (by decide), hf 2 (by decide), hf 3 (by decide), hf 4 (by decide), hf 5 (by decide), hf 6 (by decide), hf 7 (by decide), hf 8 (by decide)]
  exact h
section M1
variable {g : am_H} {k : Mk} {v pl : Nat → Int32} {br lo : Int32} {c ct pr pt cm bf bt : Nat → Int32}
variable {lv : Nat} {T : Sd} {W : Nat → Lw}
variable {S : Nat → Nat} {u td nt cc : Nat} {P Z : Nat → Nat → Nat} {TD : Nat → Nat} {hd : Nat → Bool} {tp : Nat → Int32} {pc : Int32}
theorem c_X11_tell {Q : Option Value → am_H → Prop} (hX : MS k T W S u P td TD hd Z nt tp pc cc) {x y : Int32} (q : ∀ k', MS k' T W S u P (n_td td T x y) (n_TD td TD x y) hd Z nt tp pc cc → Q (some (.int (a_tell td T x y))) (mh g k' v pl br lo c ct pr pt cm bf bt)) : AC am_P 2 44 283 [.ref 121, .int x, .int y] (mh g k v pl br lo c ct pr pt cm bf bt) Q := by
  refine AC.of (ls := [_, _, _]) rfl ?_
  have hX0 := hX
  obtain ⟨⟨lv, hM⟩, hG, hN, hSC, hH, hT, hL, hA, hpc, hKY, hcc⟩ := hX
  have hS := hSC.1
  have hM0 := hM
  have hG0 := hG
  obtain ⟨m0, m1, mr, mw, mf, mk, mli, mt, ms, msq, moc, mwy, msp, mlw⟩ := hM
  obtain ⟨⟨g0, g0x⟩, ⟨g1, g1x⟩, ⟨g2, g2x⟩, ⟨g3, g3x⟩, g4, ⟨g5, g5x⟩, g6, gsq, goc, gwt, gsp, gfr⟩ := hG
  have hN0 := hN
  have hS0 := hS
  obtain ⟨n0, n1, n2, n3, n4, n5, n6, n7, n8⟩ := hN
  obtain ⟨s0, s1, s2, s3, s4, s5, s6⟩ := hS
  obtain ⟨t5, t63, tin⟩ := hT
  unfold a_tell n_td at q
  refine aw rfl rfl ?_
  refine aw_getfE rfl mg_121 rfl (congrArg Value.int t63) ?_
  refine aw_c (v := nI 5) rfl (by decide) ?_
  refine aw_ieqn rfl (fun c5 => ?_) (fun c5 => ?_)
  · refine aw_c (v := -1) rfl (by decide) ?_
    exact aw_iret rfl rfl (by rw [if_pos c5, if_pos (Or.inl c5)] at q; exact q k ⟨⟨lv, hM0⟩, hG0, hN0, hSC, hH, ⟨t5, t63, fun i hi => by rw [show n_TD td TD x y i = TD i from if_neg (by omega)]; exact tin i hi⟩, hL, hA, hpc, hKY, hcc⟩)
  · refine aw rfl rfl ?_
    refine aw rfl rfl ?_
    refine aw rfl rfl ?_
    refine aw_cv (d1 := 1) (L1 := 22) rfl rfl mg_121 rfl rfl (by decide) (by decide) (Nat.le_of_ble_eq_true rfl) (c_X11_isPlace hM0 hG0 (fun a e ea ee ha he => ?_) (fun z => ?_))
    · refine aw_ne rfl (fun _ => ?_) (fun c => absurd c (by decide))
      subst ea ee
      refine aw rfl rfl ?_
      refine aw_getf rfl mg_121 rfl ?_
      refine aw rfl rfl ?_
      refine aw_getfE rfl mg_121 rfl (congrArg Value.int t63) ?_
      refine aw rfl rfl ?_
      refine aw_iastU rfl mg_165 rfl (by omega) (by decide) (by decide) mu_165 ?_
      refine aw rfl rfl ?_
      refine aw_getf rfl mg_121 rfl ?_
      refine aw rfl rfl ?_
      refine aw_getfE rfl mg_121 rfl (congrArg Value.int t63) ?_
      refine aw rfl rfl ?_
      refine aw_iastU rfl mg_166 rfl (by omega) (by decide) (by decide) mu_166 ?_
      refine aw rfl rfl ?_
      refine aw rfl rfl ?_
      refine aw_getfE rfl mg_121 rfl (congrArg Value.int t63) ?_
      refine aw_c (v := nI 1) rfl (by decide) ?_
      refine aw_addn rfl ?_
      refine aw_putfU rfl mg_121 rfl rfl (by decide) mp_63 ?_
      refine aw rfl rfl ?_
      refine aw_getfE rfl mg_121 rfl (congrArg Value.int (show va_up k.1 63 (nI (td + 1)) 63 = nI (td + 1) from rfl)) ?_
      refine aw_c (v := nI 1) rfl (by decide) ?_
      refine aw_subn rfl (by omega) ?_
      rw [show td + 1 - 1 = td by omega]
      exact aw_iret rfl rfl (by
    rw [if_neg c5, if_neg (fun y => y.elim c5 (fun y => by rw [pl_yes g0x g1x ha he] at y; exact absurd y (by decide))), pl_yes g0x g1x ha he] at q
    have hks := ((ks2 (k := k) (i := 64) (f := upd (k.2.1 64) td (nI a))).tr (ks2 (i := 65) (f := upd (k.2.1 65) td (nI e)))).tr (ks1 (i := 63) (x := nI (td + 1)))
    have h0 := hX0.keep hks (by decide) (fun i h1 h2 => by simp; omega)
    refine q _ ⟨h0.1, hG0, hN0, hSC, hH.keep hks (by decide) (by decide), ⟨by omega, rfl, fun i hi => ?_⟩, hL.keep hks (by decide) (by decide), hA.keep hks (by decide) (by decide), hpc, h0.2.2, hcc⟩
    show upd (k.2.1 64) td (nI a) i = _ ∧ upd (k.2.1 65) td (nI e) i = _ ∧ _
    by_cases ei : i = td
    · subst ei
      rw [show n_TD i TD (nI a) (nI e) i = e * 8 + a from (if_pos rfl).trans (by unfold sqXY; rw [nI_clamp (by omega), nI_clamp (by omega)]), upd_at, upd_at, show (e * 8 + a) % 8 = a by omega, show (e * 8 + a) / 8 = e by omega]
      exact ⟨rfl, rfl, by omega, ha, he⟩
    · rw [upd_ne ei, upd_ne ei, show n_TD td TD (nI a) (nI e) i = TD i from if_neg ei]
      exact tin i (by omega))
    · refine aw_ne rfl (fun c => absurd (by decide) c) (fun _ => ?_)
      refine aw_c (v := -1) rfl (by decide) ?_
      exact aw_iret rfl rfl (by rw [if_neg c5, if_pos (Or.inr (pl_no z)), pl_no z] at q; exact q k ⟨⟨lv, hM0⟩, hG0, hN0, hSC, hH, ⟨t5, t63, fun i hi => by rw [show n_TD td TD x y i = TD i from if_neg (by omega)]; exact tin i hi⟩, hL, hA, hpc, hKY, hcc⟩)
theorem c_X11_forget {Q : Option Value → am_H → Prop} (hX : MS k T W S u P td TD hd Z nt tp pc cc) (q : ∀ k', MS k' T W S u P 0 TD hd Z nt tp pc cc → Q (some (.int (nI td))) (mh g k' v pl br lo c ct pr pt cm bf bt)) : AC am_P 0 0 284 [.ref 121] (mh g k v pl br lo c ct pr pt cm bf bt) Q := by
  refine AC.of (ls := [_, _]) rfl ?_
  have hX0 := hX
  obtain ⟨⟨lv, hM⟩, hG, hN, hSC, hH, hT, hL, hA, hpc, hKY, hcc⟩ := hX
  have hS := hSC.1
  have hM0 := hM
  have hG0 := hG
  obtain ⟨m0, m1, mr, mw, mf, mk, mli, mt, ms, msq, moc, mwy, msp, mlw⟩ := hM
  obtain ⟨⟨g0, g0x⟩, ⟨g1, g1x⟩, ⟨g2, g2x⟩, ⟨g3, g3x⟩, g4, ⟨g5, g5x⟩, g6, gsq, goc, gwt, gsp, gfr⟩ := hG
  have hN0 := hN
  have hS0 := hS
  obtain ⟨n0, n1, n2, n3, n4, n5, n6, n7, n8⟩ := hN
  obtain ⟨s0, s1, s2, s3, s4, s5, s6⟩ := hS
  obtain ⟨t5, t63, tin⟩ := hT
  refine aw rfl rfl ?_
  refine aw_getfE rfl mg_121 rfl (congrArg Value.int t63) ?_
  refine aw_ist (ls' := [_, _]) rfl rfl ?_
  refine aw rfl rfl ?_
  refine aw_c (v := nI 0) rfl (by decide) ?_
  refine aw_putfU rfl mg_121 rfl rfl (by decide) mp_63 ?_
  refine aw rfl rfl ?_
  exact aw_iret rfl rfl (by
    have hks := ks1 (k := k) (i := 63) (x := nI 0)
    have h0 := hX0.keep hks (by decide) (fun i h1 h2 => by simp)
    exact q _ ⟨h0.1, hG0, hN0, hSC, hH.keep hks (by decide) (by decide), ⟨by omega, rfl, fun i hi => absurd hi (Nat.not_lt_zero _)⟩, hL.keep hks (by decide) (by decide), hA.keep hks (by decide) (by decide), hpc, h0.2.2, hcc⟩)
def spB (x : Int32) (h : Nat) : Prop := nI 0 ≤ x ∧ x ≤ nI h
theorem va_self {α : Type} {f : Nat → α} {i j : Nat} {x : α} (h : ¬ j = i := by decide) : va_up (va_up f i x) j (f j) = va_up f i x := by
  funext n
  unfold va_up
  by_cases e : n = j
  · subst e; rw [if_pos rfl, if_neg h]
  · rw [if_neg e]
theorem va_self0 {α : Type} {f : Nat → α} {j : Nat} : va_up f j (f j) = f := by
  funext n
  unfold va_up
  by_cases e : n = j
  · subst e; rw [if_pos rfl]
  · rw [if_neg e]
theorem c_X11_hold {Q : Option Value → am_H → Prop} (hX : MS k T W S u P td TD hd Z nt tp pc cc) {x : Int32} (q0 : (¬ nI 0 ≤ x ∨ ¬ x ≤ nI 2) → Q (some (.int (nI 0))) (mh g k v pl br lo c ct pr pt cm bf bt)) (q1 : ∀ s k', s < 3 → x = nI s → MS k' T W S u P td TD (fun i => if i = s then true else hd i) (fun i => if i = s then S else Z i) nt tp pc cc → Q (some (.int (nI 1))) (mh g k' v pl br lo c ct pr pt cm bf bt)) : AC am_P 1 22 290 [.ref 121, .int x] (mh g k v pl br lo c ct pr pt cm bf bt) Q := by
  refine AC.of (ls := [_, _, _]) rfl ?_
  have hX0 := hX
  obtain ⟨⟨lv, hM⟩, hG, hN, hSC, hH, hT, hL, hA, hpc, hKY, hcc⟩ := hX
  have hS := hSC.1
  have hM0 := hM
  have hG0 := hG
  obtain ⟨m0, m1, mr, mw, mf, mk, mli, mt, ms, msq, moc, mwy, msp, mlw⟩ := hM
  obtain ⟨⟨g0, g0x⟩, ⟨g1, g1x⟩, ⟨g2, g2x⟩, ⟨g3, g3x⟩, g4, ⟨g5, g5x⟩, g6, gsq, goc, gwt, gsp, gfr⟩ := hG
  have hN0 := hN
  have hS0 := hS
  obtain ⟨n0, n1, n2, n3, n4, n5, n6, n7, n8⟩ := hN
  obtain ⟨s0, s1, s2, s3, s4, s5, s6⟩ := hS
  refine aw rfl rfl ?_
  refine aw_c (v := nI 0) rfl (by decide) ?_
  refine aw_c (v := nI 2) rfl (by decide) ?_
  refine aw_cs (d1 := 0) (L1 := 0) rfl rfl (by decide) (by decide) (Nat.le_of_ble_eq_true rfl) (c_X11_in (fun p1 p2 => ?_) (fun p => ?_))
  · refine aw_ne rfl (fun _ => ?_) (fun c => absurd c (by decide))
    obtain ⟨s, rfl, _, hs⟩ := n_of3 p1 p2 (by decide) (by decide)
    refine aw rfl rfl ?_
    refine aw_getf rfl mg_121 rfl ?_
    refine aw rfl rfl ?_
    refine aw_c (v := nI 1) rfl (by decide) ?_
    refine aw_bastU rfl mg_169 rfl (by omega) (by decide) (by decide) mu_169 ?_
    refine aw_c (v := nI 0) rfl (by decide) ?_
    refine aw_ist (ls' := [_, _, _]) rfl rfl ?_
    refine (show AW am_P 1 22 290 20 [some (.ref 121), some (.int (nI s)), some (.int (nI 0))] [] (mh g (k.1, va_up (va_up k.2.1 68 (upd (k.2.1 68) s (nI 1))) 69 (k.2.1 69), k.2.2) v pl br lo c ct pr pt cm bf bt) Q → _ from fun z => by rw [show va_up (va_up k.2.1 68 (upd (k.2.1 68) s (nI 1))) 69 (k.2.1 69) = va_up k.2.1 68 (upd (k.2.1 68) s (nI 1)) from va_self] at z; exact z) ?_
    refine aw_loop (α := Nat → Int32) (ll := fun z y => [some (.ref 121), some (.int (nI s)), some (.int (nI z))]) (hh := fun z y => mh g (k.1, va_up (va_up k.2.1 68 (upd (k.2.1 68) s (nI 1))) 69 y, k.2.2) v pl br lo c ct pr pt cm bf bt) (I := fun z y => (∀ j, j < z → y (10 * s + j) = k.2.1 53 j) ∧ ∀ n, (n < 10 * s ∨ 10 * s + 10 ≤ n) → y n = k.2.1 69 n) (N := 10) (fun z y hz hIz ihz => ?_) (fun y hIz => ?_) 0 (k.2.1 69) (Nat.zero_le _) ⟨fun j hj => absurd hj (Nat.not_lt_zero _), fun _ _ => rfl⟩
    · skip
      refine aw rfl rfl ?_
      refine aw_c (v := nI 10) rfl (by decide) ?_
      refine aw_igen rfl (fun c23 => by omega) (fun c23 => ?_)
      refine aw rfl rfl ?_
      refine aw_getf rfl mg_121 rfl ?_
      refine aw_c (v := nI 10) rfl (by decide) ?_
      refine aw rfl rfl ?_
      refine aw_muln rfl ?_
      refine aw rfl rfl ?_
      refine aw_addn rfl ?_
      refine aw rfl rfl ?_
      refine aw_getf rfl mg_121 rfl ?_
      refine aw rfl rfl ?_
      refine aw_iald (k := z) rfl mg_157 rfl (by omega) (by decide) ?_
      refine aw_iastU rfl mg_170 rfl (by omega) (by decide) (by decide) mu_170 ?_
      refine aw_incn (c := 1) (ls' := [_, _, _]) rfl rfl (by decide) rfl ?_
      refine aw rfl rfl ?_
      exact ihz (upd y (10 * s + z) (k.2.1 53 z)) ⟨fun j hj => by
        by_cases e : j = z
        · subst e; exact upd_at
        · exact (upd_ne (by omega)).trans (hIz.1 j (by omega)), fun n hn => (upd_ne (by omega)).trans (hIz.2 n hn)⟩
    · skip
      refine aw rfl rfl ?_
      refine aw_c (v := nI 10) rfl (by decide) ?_
      refine aw_ige rfl (fun _ => ?_) (fun c => absurd (by decide) c)
      refine aw_c (v := nI 1) rfl (by decide) ?_
      exact aw_iret rfl rfl (by
        have hks := (ks2 (k := k) (i := 68) (f := upd (k.2.1 68) s (nI 1))).tr (ks2 (i := 69) (f := y))
        have h0 := hX0.keep hks (by decide) (fun i h1 h2 => by simp; omega)
        refine q1 s _ (by omega) rfl ⟨h0.1, hG0, hN0, hSC, hH.keep hks (by decide) (by decide), hT.keep hks (by decide) (by decide) (by decide), fun i hi => ?_, hA.keep hks (by decide) (by decide), hpc, h0.2.2, hcc⟩
        show upd (k.2.1 68) s (nI 1) i = _ ∧ (_ → NR T (fun j => y (10 * i + j)) _ ∧ _)
        by_cases ei : i = s
        · subst ei
          dsimp only
          rw [if_pos rfl, if_pos rfl]
          exact ⟨upd_at, fun _ => ⟨hN0.congr (fun j hj => hIz.1 j hj), hSC⟩⟩
        · dsimp only
          rw [if_neg ei, if_neg ei]
          exact ⟨(upd_ne ei).trans (hL i hi).1, fun h => ⟨((hL i hi).2 h).1.congr (fun j hj => hIz.2 _ (by omega)), ((hL i hi).2 h).2⟩⟩)
  · refine aw_ne rfl (fun c => absurd (by decide) c) (fun _ => ?_)
    refine aw_c (v := nI 0) rfl (by decide) ?_
    exact aw_iret rfl rfl (q0 p)
theorem c_X11_restore {Q : Option Value → am_H → Prop} (hX : MS k T W S u P td TD hd Z nt tp pc cc) {x : Int32} (q0 : (∀ s, s < 3 → x = nI s → hd s = false) → Q (some (.int (nI 0))) (mh g k v pl br lo c ct pr pt cm bf bt)) (q1 : ∀ s k', s < 3 → x = nI s → hd s = true → MS k' T W (Z s) 0 P td TD hd Z nt tp pc cc → Q (some (.int (nI 1))) (mh g k' v pl br lo c ct pr pt cm bf bt)) : AC am_P 1 22 291 [.ref 121, .int x] (mh g k v pl br lo c ct pr pt cm bf bt) Q := by
  refine AC.of (ls := [_, _, _]) rfl ?_
  have hX0 := hX
  obtain ⟨⟨lv, hM⟩, hG, hN, hSC, hH, hT, hL, hA, hpc, hKY, hcc⟩ := hX
  have hS := hSC.1
  have hM0 := hM
  have hG0 := hG
  obtain ⟨m0, m1, mr, mw, mf, mk, mli, mt, ms, msq, moc, mwy, msp, mlw⟩ := hM
  obtain ⟨⟨g0, g0x⟩, ⟨g1, g1x⟩, ⟨g2, g2x⟩, ⟨g3, g3x⟩, g4, ⟨g5, g5x⟩, g6, gsq, goc, gwt, gsp, gfr⟩ := hG
  have hN0 := hN
  have hS0 := hS
  obtain ⟨n0, n1, n2, n3, n4, n5, n6, n7, n8⟩ := hN
  obtain ⟨s0, s1, s2, s3, s4, s5, s6⟩ := hS
  refine aw rfl rfl ?_
  refine aw_c (v := nI 0) rfl (by decide) ?_
  refine aw_c (v := nI 2) rfl (by decide) ?_
  refine aw_cs (d1 := 0) (L1 := 0) rfl rfl (by decide) (by decide) (Nat.le_of_ble_eq_true rfl) (c_X11_in (fun p1 p2 => ?_) (fun p => ?_))
  · refine aw_eq rfl (fun c => absurd c (by decide)) (fun _ => ?_)
    obtain ⟨s, rfl, _, hs⟩ := n_of3 p1 p2 (by decide) (by decide)
    refine aw rfl rfl ?_
    refine aw_getf rfl mg_121 rfl ?_
    refine aw rfl rfl ?_
    refine aw_bald rfl mg_169 rfl (by omega) (by decide) ?_
    rw [(hL s (by omega)).1]
    refine aw_ne rfl (fun c15 => ?_) (fun c15 => ?_)
    · have eh : hd s = true := by
        cases e : hd s with
        | true => rfl
        | false => rw [e] at c15; exact absurd rfl c15
      refine aw_c (v := nI 0) rfl (by decide) ?_
      refine aw_ist (ls' := [_, _, _]) rfl rfl ?_
      refine (show AW am_P 1 22 291 22 [some (.ref 121), some (.int (nI s)), some (.int (nI 0))] [] (mh g (k.1, va_up k.2.1 53 (k.2.1 53), k.2.2) v pl br lo c ct pr pt cm bf bt) Q → _ from fun z => by rw [va_self0] at z; exact z) ?_
      refine aw_loop (α := Nat → Int32) (ll := fun z y => [some (.ref 121), some (.int (nI s)), some (.int (nI z))]) (hh := fun z y => mh g (k.1, va_up k.2.1 53 y, k.2.2) v pl br lo c ct pr pt cm bf bt) (I := fun z y => ∀ j, j < z → y j = k.2.1 69 (10 * s + j)) (N := 10) (fun z y hz hIz ihz => ?_) (fun y hIz => ?_) 0 (k.2.1 53) (Nat.zero_le _) (fun j hj => absurd hj (Nat.not_lt_zero _))
      · skip
        refine aw rfl rfl ?_
        refine aw_c (v := nI 10) rfl (by decide) ?_
        refine aw_igen rfl (fun c25 => by omega) (fun c25 => ?_)
        refine aw rfl rfl ?_
        refine aw_getf rfl mg_121 rfl ?_
        refine aw rfl rfl ?_
        refine aw rfl rfl ?_
        refine aw_getf rfl mg_121 rfl ?_
        refine aw_c (v := nI 10) rfl (by decide) ?_
        refine aw rfl rfl ?_
        refine aw_muln rfl ?_
        refine aw rfl rfl ?_
        refine aw_addn rfl ?_
        refine aw_iald rfl mg_170 rfl (by omega) (by decide) ?_
        refine aw_iastU rfl mg_157 rfl (by omega) (by decide) (by decide) mu_157 ?_
        refine aw_incn (c := 1) (ls' := [_, _, _]) rfl rfl (by decide) rfl ?_
        refine aw rfl rfl ?_
        exact ihz (upd y z (k.2.1 69 (10 * s + z))) (fun j hj => by
          by_cases e : j = z
          · subst e; exact upd_at
          · exact (upd_ne e).trans (hIz j (by omega)))
      · skip
        refine aw rfl rfl ?_
        refine aw_c (v := nI 10) rfl (by decide) ?_
        refine aw_ige rfl (fun _ => ?_) (fun c => absurd (by decide) c)
        refine aw rfl rfl ?_
        refine aw_c (v := nI 0) rfl (by decide) ?_
        refine aw_putfU rfl mg_121 rfl rfl (by decide) mp_58 ?_
        refine aw_c (v := nI 1) rfl (by decide) ?_
        exact aw_iret rfl rfl (by
          have hks := (ks2 (k := k) (i := 53) (f := y)).tr (ks1 (i := 58) (x := nI 0))
          have h0 := hX0.keep hks (by decide) (fun i h1 h2 => by simp; omega)
          have hz2 := (hL s (by omega)).2 eh
          exact q1 s _ (by omega) rfl eh ⟨h0.1, hG0, hz2.1.congr hIz, hz2.2, ⟨by decide, rfl, fun i hi => absurd hi (Nat.not_lt_zero _)⟩, hT.keep hks (by decide) (by decide) (by decide), hL.keep hks (by decide) (by decide), hA.keep hks (by decide) (by decide), hpc, h0.2.2, hcc⟩)
    · refine aw_c (v := nI 0) rfl (by decide) ?_
      exact aw_iret rfl rfl (q0 (fun i h1 h2 => by have e := (nI_eq (by omega) (by omega)).mp h2; subst e; cases e2 : hd s with | false => rfl | true => rw [e2] at c15; exact absurd c15 (by decide)))
  · refine aw_eq rfl (fun _ => ?_) (fun c => absurd (by decide) c)
    refine aw_c (v := nI 0) rfl (by decide) ?_
    exact aw_iret rfl rfl (q0 (fun i h1 h2 => by subst h2; exact absurd p (fun y => y.elim (fun y => y (nI_pos' (by omega))) (fun y => y (nI_le (by omega) (by decide))))))
end M1
