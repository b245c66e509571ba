/-! ===== the class: the table turned to a step ===== -/
theorem aw_newi {d L M pc nx a b n : Nat} {ls : List (Option Value)} {h : am_H} {Q : Option Value → am_H → Prop} {x : Int32} {r : List Value} (hf : am_at (am_P M).2.2.2 pc = some (.newarray .int, nx, a, b)) (hx : x = nI n) (hn : n ≤ 1000000) (k : AW am_P d L M nx ls (.ref h.1 :: r) (am_nw h n (am_ints n (fun _ => 0))) Q) : AW am_P d L M pc ls (.int x :: r) h Q := by
  refine aw hf ?_ k
  subst hx
  show (if nI n < 0 ∨ 1000000 < (nI n).toNatClampNeg then none else some (.inl (nx, ls, .ref h.1 :: r, am_nw h (nI n).toNatClampNeg (am_z (am_aty .int) (nI n).toNatClampNeg))) : am_O) = _
  rw [if_neg (fun z => z.elim (nI_pos (by omega)) (fun z => by rw [nI_clamp (by omega)] at z; omega)), nI_clamp (by omega)]
  rfl
theorem aw_aastU {d L M pc nx a b : Nat} {ls : List (Option Value)} {h h' : am_H} {Q : Option Value → am_H → Prop} {q k n y t : Nat} {j : Int32} {f : Nat → Option Nat} {r : List Value} (hf : am_at (am_P M).2.2.2 pc = some (.aastore, nx, a, b)) (hc : h.2.2 q = .inr (t, n, .inr (.inr f))) (hj : j = nI k) (hk : k < n) (hn : n < 2147483648) (h8 : 8 ≤ q) (hy8 : 8 ≤ y) (hy : y < h.1) (he : am_elt t (h.2.2 y) = true) (hu : am_up h q (.inr (t, n, .inr (.inr (va_up f k (some y))))) = h') (kk : AW am_P d L M nx ls r h' Q) : AW am_P d L M pc ls (.ref y :: .int j :: .ref q :: r) h Q := by
  subst hu
  exact aw_aast hf hc hj hk hn h8 hy8 hy he kk
theorem aw_iastV {d L M pc nx a b : Nat} {ls : List (Option Value)} {h h' : am_H} {Q : Option Value → am_H → Prop} {q k n : Nat} {j x : Int32} {f : Nat → Int32} {r : List Value} (hf : am_at (am_P M).2.2.2 pc = some (.iastore, nx, a, b)) (hc : h.2.2 q = .inr (0, n, .inl f)) (hj : j = nI k) (hk : k < n) (hn : n < 2147483648) (h8 : 8 ≤ q) (hu : am_up h q (.inr (0, n, .inl (upd f k x))) = h') (kk : AW am_P d L M nx ls r h' Q) : AW am_P d L M pc ls (.int x :: .int j :: .ref q :: r) h Q := aw_iastU hf hc hj hk hn h8 hu kk
section C1
variable {g : am_H} {T0 T1 T : Sd} {u0 u1 : Ua} {K : Ck} {rf : Nat → Nat} {p : Nat} {LW : LWt} {S : Nat → Nat} {u td nt cc : Nat} {P Z : Nat → Nat → Nat} {TD : Nat → Nat} {hd : Nat → Bool} {tp : Nat → Int32} {pc : Int32}
variable {no na : Nat} {lf : Nat → Nat}
theorem vwA_le {l a way : Nat} (h : vwA T l a way) : a ≤ T.1 3 := by
  rcases h with ⟨h, _⟩ | ⟨h, _⟩ <;> omega
theorem vw_lt {l way : Nat} (hG : GS T) (h : vw T l way) : way < 25 := by
  obtain ⟨⟨g0, g0x⟩, ⟨g1, g1x⟩, ⟨g2, g2x⟩, ⟨g3, g3x⟩, g4, ⟨g5, g5x⟩, g6, gsq, goc, gwt, gsp, gfr⟩ := hG
  obtain ⟨a, h⟩ := h
  rcases h with ⟨_, h⟩ | ⟨h1, _, o, h2, h3⟩
  · omega
  · have := (goc a h1).2.2.1; omega
theorem vwA_ne {l a a' way way' : Nat} (hG : GS T) (h : vwA T l a way) (h' : vwA T l a' way') (ha : a' < a) : way' ≠ way := by
  obtain ⟨⟨g0, g0x⟩, ⟨g1, g1x⟩, ⟨g2, g2x⟩, ⟨g3, g3x⟩, g4, ⟨g5, g5x⟩, g6, gsq, goc, gwt, gsp, gfr⟩ := hG
  rcases h' with ⟨z1, z2⟩ | ⟨z1, _, o', z2, z3⟩
  · rcases h with ⟨y1, _⟩ | ⟨y1, _⟩ <;> omega
  · have := (goc a' z1).2.2.1
    rcases h with ⟨_, y2⟩ | ⟨_, _, o, y2, y3⟩
    · omega
    · omega
theorem l_fill {Q : Option Value → am_H → Prop} (hp : SP2 p T T0 T1) (hr3 : rf 3 = p) (hG : GS T) (hW : LWs T LW) (hL : LLr T K no na lf) {q8 st w at8 : Nat} {f0 : Nat → Int32} (hr8 : rf 8 = q8) (h8 : rowP q8) (hf0 : g.2.2 q8 = am_ints 2400 f0) (q : ∀ f u0 u1, RWc T LW f (nI (st * T.1 5)) → Q none (ch (am_up g q8 (am_ints 2400 f)) T0 u0 T1 u1 K rf)) : AW am_P 4 100 114 73 [some (.ref 100), some (.int (nI w)), some (.int (nI st)), some (.int (nI at8)), some (.int (nI no)), none, none, none, none, none] [] (ch g T0 u0 T1 u1 K rf) Q := by
  have hG0 := hG
  obtain ⟨⟨g0, g0x⟩, ⟨g1, g1x⟩, ⟨g2, g2x⟩, ⟨g3, g3x⟩, g4, ⟨g5, g5x⟩, g6, gsq, goc, gwt, gsp, gfr⟩ := hG
  have hL0 := hL
  obtain ⟨l96, lno, l18, l19, lin, lop, lhm, linj, lall, lhome⟩ := hL
  have hq8 : 8 ≤ q8 := by rcases h8 with h | h <;> omega
  refine aw_c (v := nI 0) rfl (by decide) ?_
  refine aw_ist (ls' := [_, _, _, _, _, _, _, _, _, _]) rfl rfl ?_
  refine (show AW am_P 4 100 114 76 [some (.ref 100), some (.int (nI w)), some (.int (nI st)), some (.int (nI at8)), some (.int (nI no)), some (.int (nI 0)), none, none, none, none] [] (ch (am_up g q8 (am_ints 2400 f0)) T0 u0 T1 u1 K rf) Q → _ from fun z => by rw [am_up_self hf0] at z; exact z) ?_
  refine aw_loop (α := ((Nat → Int32) × Ua × Ua) × Option Value × Option Value × Option Value × Option Value) (ll := fun i y => [some (.ref 100), some (.int (nI w)), some (.int (nI st)), some (.int (nI at8)), some (.int (nI no)), some (.int (nI i)), y.2.1, y.2.2.1, y.2.2.2.1, y.2.2.2.2]) (hh := fun i y => (ch (am_up g q8 (am_ints 2400 y.1.1)) T0 y.1.2.1 T1 y.1.2.2 K rf)) (I := fun i y => (∀ i', i' < i → ∀ way, vw T (lf i') way → y.1.1 (lf i' * 25 + way) = n_land T LW (lf i') way (nI (st * T.1 5)))) (N := no) (fun i y hi hI ihi => ?_) (fun y hI => ?_) 0 ((f0, u0, u1), none, none, none, none) (Nat.zero_le _) (fun z hz => absurd hz (Nat.not_lt_zero _))
  · skip
    obtain ⟨⟨f, v0, v1⟩, l6, l7, l8, l9⟩ := y
    dsimp only at hI ⊢
    refine aw rfl rfl ?_
    refine aw rfl rfl ?_
    refine aw_igen rfl (fun c80 => by omega) (fun c80 => ?_)
    refine aw rfl rfl ?_
    refine aw_getf rfl cg_100 rfl ?_
    refine aw rfl rfl ?_
    refine aw_ialdE rfl cg_104 rfl (by omega) (by decide) (lin i (by omega)).1 ?_
    refine aw_ist (ls' := [_, _, _, _, _, _, _, _, _, _]) rfl rfl ?_
    refine aw_c (v := nI 0) rfl (by decide) ?_
    refine aw_ist (ls' := [_, _, _, _, _, _, _, _, _, _]) rfl rfl ?_
    refine aw_loop (α := ((Nat → Int32) × Ua × Ua) × Option Value × Option Value) (ll := fun a y => [some (.ref 100), some (.int (nI w)), some (.int (nI st)), some (.int (nI at8)), some (.int (nI no)), some (.int (nI i)), some (.int (nI (lf i))), some (.int (nI a)), y.2.1, y.2.2]) (hh := fun a y => (ch (am_up g q8 (am_ints 2400 y.1.1)) T0 y.1.2.1 T1 y.1.2.2 K rf)) (I := fun a y => (∀ i', i' < i → ∀ way, vw T (lf i') way → y.1.1 (lf i' * 25 + way) = n_land T LW (lf i') way (nI (st * T.1 5))) ∧ (∀ a', a' < a → ∀ way, vwA T (lf i) a' way → y.1.1 (lf i * 25 + way) = n_land T LW (lf i) way (nI (st * T.1 5)))) (N := T.1 3 + 1) (fun a y ha hIa iha => ?_) (fun y hIa => ?_) 0 ((f, v0, v1), l8, l9) (Nat.zero_le _) ⟨hI, fun a' ha => absurd ha (Nat.not_lt_zero _)⟩
    · skip
      obtain ⟨⟨f, v0, v1⟩, l8, l9⟩ := y
      dsimp only at hIa ⊢
      have hl96 := (lin i (by omega)).2.1
      by_cases e3 : a = T.1 3
      · skip
        refine aw rfl rfl ?_
        refine aw rfl rfl ?_
        refine aw_getfE rfl cg_100 rfl (congrArg Value.ref hr3) ?_
        refine aw_getf rfl (sa hp).1 rfl ?_
        refine aw_igtn rfl (fun c104 => by omega) (fun c104 => ?_)
        refine aw rfl rfl ?_
        refine aw_getfE rfl cg_100 rfl (congrArg Value.ref hr3) ?_
        refine aw rfl rfl ?_
        refine aw_c (v := nI 3) rfl (by decide) ?_
        refine aw_divn rfl (by omega) (by omega) (by omega) ?_
        refine aw rfl rfl ?_
        refine aw_cv (d1 := 1) (L1 := 22) rfl rfl (sa hp).1 rfl rfl (by decide) (by decide) (Nat.le_of_ble_eq_true rfl) (c_X7_canDoFrom (sa hp) (by omega) (by omega) g3x (fun _ => ?_) (fun z => absurd z (by omega)))
        · refine aw_eq rfl (fun c => absurd c (by decide)) (fun _ => ?_)
          refine aw rfl rfl ?_
          refine aw_getfE rfl cg_100 rfl (congrArg Value.ref hr3) ?_
          refine aw rfl rfl ?_
          refine aw_cv (d1 := 0) (L1 := 0) rfl rfl (sa hp).1 rfl rfl (by decide) (by decide) (Nat.le_of_ble_eq_true rfl) (c_X7_endOfWays (sa hp) (by omega) g3x (fun z => absurd z (by omega)) (fun _ => ?_))
          refine aw rfl rfl ?_
          refine aw_ist (ls' := [_, _, _, _, _, _, _, _, _, _]) rfl rfl ?_
          refine aw rfl rfl ?_
          refine aw_getfE rfl cg_100 rfl (congrArg Value.ref hr3) ?_
          refine aw rfl rfl ?_
          refine aw_cv (d1 := 0) (L1 := 0) rfl rfl (sa hp).1 rfl rfl (by decide) (by decide) (Nat.le_of_ble_eq_true rfl) (c_X7_firstWay (sa hp) (by omega) g3x ?_)
          rw [if_pos e3]
          refine aw_ist (ls' := [_, _, _, _, _, _, _, _, _, _]) rfl rfl ?_
          refine aw_loop (α := (Nat → Int32) × Ua × Ua) (ll := fun o y => [some (.ref 100), some (.int (nI w)), some (.int (nI st)), some (.int (nI at8)), some (.int (nI no)), some (.int (nI i)), some (.int (nI (lf i))), some (.int (nI a)), some (.int (nI (24 + 1))), some (.int (nI (24 + o)))]) (hh := fun o y => (ch (am_up g q8 (am_ints 2400 y.1)) T0 y.2.1 T1 y.2.2 K rf)) (I := fun o y => ((∀ i', i' < i → ∀ way, vw T (lf i') way → y.1 (lf i' * 25 + way) = n_land T LW (lf i') way (nI (st * T.1 5))) ∧ (∀ a', a' < a → ∀ way, vwA T (lf i) a' way → y.1 (lf i * 25 + way) = n_land T LW (lf i) way (nI (st * T.1 5)))) ∧ (∀ o', o' < o → y.1 (lf i * 25 + (24 + o')) = n_land T LW (lf i) (24 + o') (nI (st * T.1 5)))) (N := 1) (fun o y ho hIo iho => ?_) (fun y hIo => ?_) 0 (f, v0, v1) (Nat.zero_le _) ⟨hIa, fun o' ho => absurd ho (Nat.not_lt_zero _)⟩
          · skip
            obtain ⟨f, v0, v1⟩ := y
            dsimp only at hIo ⊢
            have hrow : (ch (am_up g q8 (am_ints 2400 f)) T0 v0 T1 v1 K rf).2.2 q8 = .inr (0, 2400, .inl f) := (cg_row h8.o).trans hg_eq
            refine aw rfl rfl ?_
            refine aw rfl rfl ?_
            refine aw_igen rfl (fun c153 => by omega) (fun c153 => ?_)
            refine aw rfl rfl ?_
            refine aw_getfE rfl cg_100 rfl (congrArg Value.ref hr8) ?_
            refine aw rfl rfl ?_
            refine aw_c (v := nI 25) rfl (by decide) ?_
            refine aw_muln rfl ?_
            refine aw rfl rfl ?_
            refine aw_addn rfl ?_
            refine aw rfl rfl ?_
            refine aw_getfE rfl cg_100 rfl (congrArg Value.ref hr3) ?_
            refine aw rfl rfl ?_
            refine aw rfl rfl ?_
            refine aw rfl rfl ?_
            refine aw rfl rfl ?_
            refine aw_getfE rfl cg_100 rfl (congrArg Value.ref hr3) ?_
            refine aw_getf rfl (sa hp).1 rfl ?_
            refine aw_muln rfl ?_
            refine aw_cv (d1 := 3) (L1 := 70) rfl rfl (sa hp).1 rfl rfl (by decide) (by decide) (Nat.le_of_ble_eq_true rfl) (c_land hp hG0 hW hl96 (Or.inl (by omega)) (fun v0 v1 => ?_))
            refine aw_iastV (q := q8) (k := lf i * 25 + (24 + o)) rfl ((cg_row h8.o).trans hg_eq) rfl (by omega) (by decide) hq8 ((cw_row h8.o).trans (by rw [am_up_up])) ?_
            refine aw_incn (c := 1) (ls' := [_, _, _, _, _, _, _, _, _, _]) rfl rfl (by decide) rfl ?_
            refine aw rfl rfl ?_
            refine iho (upd f (lf i * 25 + (24 + o)) (n_land T LW (lf i) (24 + o) (nI (st * T.1 5))), v0, v1) ⟨⟨fun z h1 way hw => (upd_ne (by have := linj z i (by omega) hi; have := vw_lt hG0 hw; omega)).trans (hIo.1.1 z h1 way hw), fun z h1 way hw => (upd_ne (by have := vwA_ne hG0 (show vwA T (lf i) a (24 + o) from Or.inl ⟨e3, by omega⟩) hw h1; omega)).trans (hIo.1.2 z h1 way hw)⟩, fun z h1 => ?_⟩
            by_cases e : z = o
            · subst e; exact upd_at
            · exact (upd_ne (by omega)).trans (hIo.2 z (by omega))
          · skip
            obtain ⟨f, v0, v1⟩ := y
            dsimp only at hIo ⊢
            refine aw rfl rfl ?_
            refine aw rfl rfl ?_
            refine aw_igen rfl (fun c153 => ?_) (fun c153 => by omega)
            refine aw_incn (c := 1) (ls' := [_, _, _, _, _, _, _, _, _, _]) rfl rfl (by decide) rfl ?_
            refine aw rfl rfl ?_
            exact iha ((f, v0, v1), some (.int (nI (24 + 1))), some (.int (nI (24 + 1)))) ⟨hIo.1.1, fun z h1 way hw => by
              by_cases e : z = a
              · subst e
                rcases hw with ⟨h2, h3⟩ | ⟨h2, h3, o, h4, h5⟩
                · have := hIo.2 0 (by decide); rw [h3]; exact this
                · omega
              · exact hIo.1.2 z (by omega) way hw⟩
      · skip
        have ha3 : a < T.1 3 := by omega
        have hg := goc a ha3
        have ho6 := hg.2.2.1
        refine aw rfl rfl ?_
        refine aw rfl rfl ?_
        refine aw_getfE rfl cg_100 rfl (congrArg Value.ref hr3) ?_
        refine aw_getf rfl (sa hp).1 rfl ?_
        refine aw_igtn rfl (fun c104 => by omega) (fun c104 => ?_)
        refine aw rfl rfl ?_
        refine aw_getfE rfl cg_100 rfl (congrArg Value.ref hr3) ?_
        refine aw rfl rfl ?_
        refine aw_c (v := nI 3) rfl (by decide) ?_
        refine aw_divn rfl (by omega) (by omega) (by omega) ?_
        refine aw rfl rfl ?_
        refine aw_cv (d1 := 1) (L1 := 22) rfl rfl (sa hp).1 rfl rfl (by decide) (by decide) (Nat.le_of_ble_eq_true rfl) (c_X7_canDoFrom (sa hp) (by omega) (by omega) g3x (fun hck => ?_) (fun _ hck => ?_))
        · have mck_ok := (nck_iff hG0 (lin i (by omega)).2 (lop i hi) ha3).mp (hck.resolve_left e3)
          refine aw_eq rfl (fun c => absurd c (by decide)) (fun _ => ?_)
          refine aw rfl rfl ?_
          refine aw_getfE rfl cg_100 rfl (congrArg Value.ref hr3) ?_
          refine aw rfl rfl ?_
          refine aw_cv (d1 := 0) (L1 := 0) rfl rfl (sa hp).1 rfl rfl (by decide) (by decide) (Nat.le_of_ble_eq_true rfl) (c_X7_endOfWays (sa hp) (by omega) g3x (fun _ => ?_) (fun z => absurd z (by omega)))
          rw [hg.1, nI_add, Nat.mul_comm a 6]
          refine aw rfl rfl ?_
          refine aw_ist (ls' := [_, _, _, _, _, _, _, _, _, _]) rfl rfl ?_
          refine aw rfl rfl ?_
          refine aw_getfE rfl cg_100 rfl (congrArg Value.ref hr3) ?_
          refine aw rfl rfl ?_
          refine aw_cv (d1 := 0) (L1 := 0) rfl rfl (sa hp).1 rfl rfl (by decide) (by decide) (Nat.le_of_ble_eq_true rfl) (c_X7_firstWay (sa hp) (by omega) g3x ?_)
          rw [if_neg e3, Nat.mul_comm a 6]
          refine aw_ist (ls' := [_, _, _, _, _, _, _, _, _, _]) rfl rfl ?_
          refine aw_loop (α := (Nat → Int32) × Ua × Ua) (ll := fun o y => [some (.ref 100), some (.int (nI w)), some (.int (nI st)), some (.int (nI at8)), some (.int (nI no)), some (.int (nI i)), some (.int (nI (lf i))), some (.int (nI a)), some (.int (nI (6 * a + oc T a))), some (.int (nI (6 * a + o)))]) (hh := fun o y => (ch (am_up g q8 (am_ints 2400 y.1)) T0 y.2.1 T1 y.2.2 K rf)) (I := fun o y => ((∀ i', i' < i → ∀ way, vw T (lf i') way → y.1 (lf i' * 25 + way) = n_land T LW (lf i') way (nI (st * T.1 5))) ∧ (∀ a', a' < a → ∀ way, vwA T (lf i) a' way → y.1 (lf i * 25 + way) = n_land T LW (lf i) way (nI (st * T.1 5)))) ∧ (∀ o', o' < o → y.1 (lf i * 25 + (6 * a + o')) = n_land T LW (lf i) (6 * a + o') (nI (st * T.1 5)))) (N := oc T a) (fun o y ho hIo iho => ?_) (fun y hIo => ?_) 0 (f, v0, v1) (Nat.zero_le _) ⟨hIa, fun o' ho => absurd ho (Nat.not_lt_zero _)⟩
          · skip
            obtain ⟨f, v0, v1⟩ := y
            dsimp only at hIo ⊢
            have hrow : (ch (am_up g q8 (am_ints 2400 f)) T0 v0 T1 v1 K rf).2.2 q8 = .inr (0, 2400, .inl f) := (cg_row h8.o).trans hg_eq
            refine aw rfl rfl ?_
            refine aw rfl rfl ?_
            refine aw_igen rfl (fun c153 => by omega) (fun c153 => ?_)
            refine aw rfl rfl ?_
            refine aw_getfE rfl cg_100 rfl (congrArg Value.ref hr8) ?_
            refine aw rfl rfl ?_
            refine aw_c (v := nI 25) rfl (by decide) ?_
            refine aw_muln rfl ?_
            refine aw rfl rfl ?_
            refine aw_addn rfl ?_
            refine aw rfl rfl ?_
            refine aw_getfE rfl cg_100 rfl (congrArg Value.ref hr3) ?_
            refine aw rfl rfl ?_
            refine aw rfl rfl ?_
            refine aw rfl rfl ?_
            refine aw rfl rfl ?_
            refine aw_getfE rfl cg_100 rfl (congrArg Value.ref hr3) ?_
            refine aw_getf rfl (sa hp).1 rfl ?_
            refine aw_muln rfl ?_
            refine aw_cv (d1 := 3) (L1 := 70) rfl rfl (sa hp).1 rfl rfl (by decide) (by decide) (Nat.le_of_ble_eq_true rfl) (c_land hp hG0 hW hl96 (Or.inr ⟨a, o, ha3, ho, rfl⟩) (fun v0 v1 => ?_))
            refine aw_iastV (q := q8) (k := lf i * 25 + (6 * a + o)) rfl ((cg_row h8.o).trans hg_eq) rfl (by omega) (by decide) hq8 ((cw_row h8.o).trans (by rw [am_up_up])) ?_
            refine aw_incn (c := 1) (ls' := [_, _, _, _, _, _, _, _, _, _]) rfl rfl (by decide) rfl ?_
            refine aw rfl rfl ?_
            refine iho (upd f (lf i * 25 + (6 * a + o)) (n_land T LW (lf i) (6 * a + o) (nI (st * T.1 5))), v0, v1) ⟨⟨fun z h1 way hw => (upd_ne (by have := linj z i (by omega) hi; have := vw_lt hG0 hw; omega)).trans (hIo.1.1 z h1 way hw), fun z h1 way hw => (upd_ne (by have := vwA_ne hG0 (Or.inr ⟨ha3, mck_ok, o, ho, rfl⟩) hw h1; omega)).trans (hIo.1.2 z h1 way hw)⟩, fun z h1 => ?_⟩
            by_cases e : z = o
            · subst e; exact upd_at
            · exact (upd_ne (by omega)).trans (hIo.2 z (by omega))
          · skip
            obtain ⟨f, v0, v1⟩ := y
            dsimp only at hIo ⊢
            refine aw rfl rfl ?_
            refine aw rfl rfl ?_
            refine aw_igen rfl (fun c153 => ?_) (fun c153 => by omega)
            refine aw_incn (c := 1) (ls' := [_, _, _, _, _, _, _, _, _, _]) rfl rfl (by decide) rfl ?_
            refine aw rfl rfl ?_
            exact iha ((f, v0, v1), some (.int (nI (6 * a + oc T a))), some (.int (nI (6 * a + oc T a)))) ⟨hIo.1.1, fun z h1 way hw => by
              by_cases e : z = a
              · subst e
                rcases hw with ⟨h2, h3⟩ | ⟨h2, h3, o, h4, h5⟩
                · omega
                · have := hIo.2 o h4; rw [h5]; exact this
              · exact hIo.1.2 z (by omega) way hw⟩
        · refine aw_eq rfl (fun _ => ?_) (fun c => absurd (by decide) c)
          refine aw_c (v := nI 0) rfl (by decide) ?_
          refine aw_ist (ls' := [_, _, _, _, _, _, _, _, _, _]) rfl rfl ?_
          refine aw rfl rfl ?_
          refine aw_getfE rfl cg_100 rfl (congrArg Value.ref hr3) ?_
          refine aw rfl rfl ?_
          refine aw_cv (d1 := 0) (L1 := 0) rfl rfl (sa hp).1 rfl rfl (by decide) (by decide) (Nat.le_of_ble_eq_true rfl) (c_X7_firstWay (sa hp) (by omega) g3x ?_)
          rw [if_neg e3, Nat.mul_comm a 6]
          refine aw_ist (ls' := [_, _, _, _, _, _, _, _, _, _]) rfl rfl ?_
          refine aw rfl rfl ?_
          refine aw rfl rfl ?_
          refine aw_igen rfl (fun c153 => ?_) (fun c153 => by omega)
          refine aw_incn (c := 1) (ls' := [_, _, _, _, _, _, _, _, _, _]) rfl rfl (by decide) rfl ?_
          refine aw rfl rfl ?_
          exact iha ((f, v0, v1), some (.int (nI 0)), some (.int (nI (6 * a)))) ⟨hIa.1, fun z h1 way hw => by
            by_cases e : z = a
            · subst e
              rcases hw with ⟨h2, h3⟩ | ⟨h2, h3, o, h4, h5⟩
              · omega
              · exact absurd ((nck_iff hG0 (lin i (by omega)).2 (lop i hi) h2).mpr h3) hck
            · exact hIa.2 z (by omega) way hw⟩
    · skip
      obtain ⟨⟨f, v0, v1⟩, l8, l9⟩ := y
      dsimp only at hIa ⊢
      refine aw rfl rfl ?_
      refine aw rfl rfl ?_
      refine aw_getfE rfl cg_100 rfl (congrArg Value.ref hr3) ?_
      refine aw_getf rfl (sa hp).1 rfl ?_
      refine aw_igtn rfl (fun c104 => ?_) (fun c104 => by omega)
      refine aw_incn (c := 1) (ls' := [_, _, _, _, _, _, _, _, _, _]) rfl rfl (by decide) rfl ?_
      refine aw rfl rfl ?_
      exact ihi ((f, v0, v1), _, _, _, _) (fun z h1 way hw => by
        by_cases e : z = i
        · subst e
          obtain ⟨a, hw⟩ := hw
          exact hIa.2 a (by have := vwA_le hw; omega) way hw
        · exact hIa.1 z (by omega) way hw)
  · skip
    obtain ⟨⟨f, v0, v1⟩, l6, l7, l8, l9⟩ := y
    dsimp only at hI ⊢
    refine aw rfl rfl ?_
    refine aw rfl rfl ?_
    refine aw_igen rfl (fun c80 => ?_) (fun c80 => by omega)
    exact aw_vret rfl rfl (q f v0 v1 (fun l h1 h2 way hw => by obtain ⟨i, h3, rfl⟩ := lall l h1 h2; exact hI i h3 way hw))
end C1
