/-! ===== the class: goBy, plan, trap ===== -/
theorem wl_step (b : Bool) (c w : Nat) : wl1 b (if c ≤ w then some (w - c) else none) = if c + (bif b then 1 else 0) ≤ w then some (w - (c + (bif b then 1 else 0))) else none := by
  cases b with
  | true =>
    show wl1 true _ = if c + 1 ≤ w then some (w - (c + 1)) else none
    by_cases h : c ≤ w
    · rw [if_pos h]
      show (if w - c = 0 then none else some (w - c - 1)) = _
      by_cases h2 : w - c = 0
      · rw [if_pos h2, if_neg (by omega)]
      · rw [if_neg h2, if_pos (by omega)]; exact congrArg some (by omega)
    · rw [if_neg h, if_neg (by omega)]; rfl
  | false =>
    show wl1 false _ = if c + 0 ≤ w then some (w - (c + 0)) else none
    by_cases h : c ≤ w
    · rw [if_pos h, if_pos (by omega)]; rfl
    · rw [if_neg h, if_neg (by omega)]; rfl
theorem wl_cnt {T : Sd} {LW : LWt} {l t w : Nat} : ∀ i, wl T LW l t w i = if ctN (fun j => decide (n_land T LW l 24 (nI (t + j * T.1 5)) = -1)) i ≤ w then some (w - ctN (fun j => decide (n_land T LW l 24 (nI (t + j * T.1 5)) = -1)) i) else none := by
  intro i
  induction i with
  | zero => rfl
  | succ i ih =>
    show wl1 _ (wl T LW l t w i) = _
    rw [ih]
    exact wl_step _ _ _
theorem n_456 {z : Nat} (h : z ≤ 6) (h3 : 3 < z) : nI z = nI 6 ∨ nI z = nI 4 ∨ nI z = nI 5 := by
  have : z = 4 ∨ z = 5 ∨ z = 6 := by omega
  rcases this with rfl | rfl | rfl
  · exact Or.inr (Or.inl rfl)
  · exact Or.inr (Or.inr rfl)
  · exact Or.inl rfl
theorem n_sub1 {a c : Nat} : nI a - nI c + -1 = nI a - nI (c + 1) := by
  rw [← nI_add, Int32.sub_eq_add_neg, Int32.sub_eq_add_neg, Int32.neg_add, Int32.sub_eq_add_neg, Int32.add_assoc]
  rfl
section C1
variable {g : am_H} {T0 T1 T : Sd} {u0 u1 : Ua} {K : Ck} {rf : Nat → Nat} {p : Nat} {S : Nat → Nat} {u td nt cc : Nat} {P Z : Nat → Nat → Nat} {TD : Nat → Nat} {hd : Nat → Bool} {tp : Nat → Int32} {pc : Int32} {W : Nat → Lw}
variable {no na : Nat} {lf : Nat → Nat}
theorem lk_m1 {T : Sd} {s : Nat} (hG : GS T) (hs : s < 32) (h : T.2 0 s = -1) : (decide (s % 8 < T.1 0) && decide (s / 8 < T.1 1) && !(decide (T.2 0 s = nI 4)) && !(decide (T.2 0 s = nI 5))) = false := by
  obtain ⟨⟨g0, g0x⟩, ⟨g1, g1x⟩, ⟨g2, g2x⟩, ⟨g3, g3x⟩, g4, ⟨g5, g5x⟩, g6, gsq, goc, gwt, gsp, gfr⟩ := hG
  by_cases hin : s % 8 < T.1 0 ∧ s / 8 < T.1 1
  · obtain ⟨z, hz, e⟩ := (gsq s hs).1 hin
    rw [e] at h
    exact absurd h (n_m1 (by omega))
  · by_cases h1 : s % 8 < T.1 0
    · rw [decide_eq_false (show ¬ s / 8 < T.1 1 from fun y => hin ⟨h1, y⟩), Bool.and_false]; rfl
    · rw [decide_eq_false h1]; rfl
theorem allz_no {f : Nat → Nat} {i : Nat} (h : ¬ f i = 0) : ∀ n, i < n → allz f n = false := by
  intro n
  induction n with
  | zero => intro hi; omega
  | succ n ih =>
    intro hi
    show (allz f n && decide (f n = 0)) = false
    by_cases e : i = n
    · subst e; rw [decide_eq_false h, Bool.and_false]
    · rw [ih (by omega)]; rfl
theorem n_spo1 {x : Int32} {h : Nat} (p9 : x < 0 ∨ nI h < x) : ¬ nI 1 ≤ x ∨ ¬ x ≤ nI h := p9.elim (fun z => Or.inl (fun y => absurd (Int32.lt_of_lt_of_le (by decide : (0 : Int32) < nI 1) y) (fun w => Int32.lt_irrefl (Int32.lt_trans w z)))) (fun z => Or.inr (Int32.not_le.mpr z))
theorem c_X10_chanceBehind {Q : Option Value → am_H → Prop} (hC : CS g T0 u0 T1 u1 K rf p T W S u P td TD hd Z nt tp pc cc) {a n : Nat} (ha : a ≤ 5) (hn : n ≤ 10) (h6 : S 6 = 0) (q : ∀ g' u0 u1 K' rf', GX g g' K.2.2.2.2 K'.2.2.2.2 → CS g' T0 u0 T1 u1 K' rf' p T W S u P td TD hd Z nt tp pc cc → Q (some (.int (nI (gbF T (lwf W) n (S 0 * 3 + S 1) (S 4 * T.1 5) (S 2) a)))) (ch g' T0 u0 T1 u1 K' rf')) : AC am_P 6 155 171 [.ref 8, .int (nI a), .int (nI n)] (ch g T0 u0 T1 u1 K rf) Q := by
  refine AC.of (ls := [_, _, _, _, _]) rfl ?_
  have hp := hC.cx.1
  have hG := hC.cx.2.1
  have hG0 := hG
  obtain ⟨⟨g0, g0x⟩, ⟨g1, g1x⟩, ⟨g2, g2x⟩, ⟨g3, g3x⟩, g4, ⟨g5, g5x⟩, g6, gsq, goc, gwt, gsp, gfr⟩ := hG
  obtain ⟨s0, s1, s2, s3, s4, s5, s6⟩ := hC.sc
  have hl96 := s0.1
  unfold gbF at q
  refine aw rfl rfl ?_
  refine aw_getf rfl cg_8 rfl ?_
  refine aw_getfE rfl cg_46 rfl (congrArg Value.int (hC.st 2 (by decide))) ?_
  refine aw_ist (ls' := [_, _, _, _, _]) rfl rfl ?_
  refine aw_c (v := nI 1) rfl (by decide) ?_
  refine aw_ist (ls' := [_, _, _, _, _]) rfl rfl ?_
  refine (show AW am_P 6 155 171 11 [some (.ref 8), some (.int (nI a)), some (.int (nI n)), some (.int (nI (S 2) - nI (ctN (fun j => decide (n_land T (lwf W) (S 0 * 3 + S 1) 24 (nI (S 4 * T.1 5 + j * T.1 5)) = -1)) (1 - 1)))), some (.int (nI 1))] [] (ch g T0 u0 T1 u1 K rf) Q → _ from fun z => by rw [show nI (S 2) - nI (ctN (fun j => decide (n_land T (lwf W) (S 0 * 3 + S 1) 24 (nI (S 4 * T.1 5 + j * T.1 5)) = -1)) (1 - 1)) = nI (S 2) from pk_sub (Nat.zero_le _)] at z; exact z) ?_
  refine aw_loop (α := Ua × Ua) (ll := fun i y => [some (.ref 8), some (.int (nI a)), some (.int (nI n)), some (.int (nI (S 2) - nI (ctN (fun j => decide (n_land T (lwf W) (S 0 * 3 + S 1) 24 (nI (S 4 * T.1 5 + j * T.1 5)) = -1)) (i - 1)))), some (.int (nI i))]) (hh := fun i y => ch g T0 y.1 T1 y.2 K rf) (I := fun i y => 1 ≤ i) (N := a + 1) (fun i y hi hI ih => ?_) (fun y hI => ?_) 1 (u0, u1) (by omega) (Nat.le_refl _)
  · skip
    obtain ⟨u0, u1⟩ := y
    dsimp only
    have hC := hC.ua (v0 := u0) (v1 := u1)
    refine aw rfl rfl ?_
    refine aw rfl rfl ?_
    refine aw_igtn rfl (fun c14 => by omega) (fun c14 => ?_)
    refine aw rfl rfl ?_
    refine aw_getfE rfl cg_8 rfl (congrArg Value.ref hC.cx.2.2.2.2.2.1) ?_
    refine aw rfl rfl ?_
    refine aw_getf rfl cg_8 rfl ?_
    refine aw_getfE rfl cg_46 rfl (congrArg Value.int (hC.st 0 (by decide))) ?_
    refine aw rfl rfl ?_
    refine aw_getf rfl cg_8 rfl ?_
    refine aw_getfE rfl cg_46 rfl (congrArg Value.int (hC.st 4 (by decide))) ?_
    refine aw rfl rfl ?_
    refine aw_addn rfl ?_
    refine aw rfl rfl ?_
    refine aw_getfE rfl cg_8 rfl (congrArg Value.ref hC.cx.2.2.2.2.2.1) ?_
    refine aw_getf rfl (sa hp).1 rfl ?_
    refine aw_muln rfl ?_
    refine aw_cv (d1 := 2) (L1 := 48) rfl rfl (sa hp).1 rfl rfl (by decide) (by decide) (Nat.le_of_ble_eq_true rfl) (c_cars (LW := lwf W) hp hC.cx.2.2.1 (by omega) (fun u0 u1 hc => ?_) (fun u0 u1 hc => ?_))
    · refine aw_eq rfl (fun c => absurd c (by decide)) (fun _ => ?_)
      refine aw_inc (c := -1) (ls' := [_, _, _, _, _]) rfl rfl (by decide) rfl ?_
      refine aw_incn (c := 1) (ls' := [_, _, _, _, _]) rfl rfl (by decide) rfl ?_
      refine aw rfl rfl ?_
      have hln := n_land_i (T := T) (LW := lwf W) (l := S 0 * 3 + S 1) (x := nI (S 4 * T.1 5 + (i - 1) * T.1 5))
      rw [show (S 0 * 3 + S 1) / 3 = S 0 by omega, nI_add, show S 4 * T.1 5 + (i - 1) * T.1 5 + T.1 5 = (S 4 + i) * T.1 5 by rw [show S 4 + i = S 4 + (i - 1) + 1 by omega, Nat.add_mul, Nat.add_mul, Nat.one_mul]] at hln
      have e5 : ctN (fun j => decide (n_land T (lwf W) (S 0 * 3 + S 1) 24 (nI (S 4 * T.1 5 + j * T.1 5)) = -1)) (i + 1 - 1) = ctN (fun j => decide (n_land T (lwf W) (S 0 * 3 + S 1) 24 (nI (S 4 * T.1 5 + j * T.1 5)) = -1)) (i - 1) + 1 := by
        have h9 : ctN (fun j => decide (n_land T (lwf W) (S 0 * 3 + S 1) 24 (nI (S 4 * T.1 5 + j * T.1 5)) = -1)) (i - 1 + 1) = ctN (fun j => decide (n_land T (lwf W) (S 0 * 3 + S 1) 24 (nI (S 4 * T.1 5 + j * T.1 5)) = -1)) (i - 1) + (bif decide _ then 1 else 0) := rfl
        rw [show i + 1 - 1 = i - 1 + 1 by omega, h9, hln, if_pos hc, decide_eq_true rfl]
        rfl
      have ih := ih (u0, u1) (by omega)
      rw [e5] at ih
      rw [n_sub1]
      exact ih
    · refine aw_eq rfl (fun _ => ?_) (fun c => absurd (by decide) c)
      refine aw_incn (c := 1) (ls' := [_, _, _, _, _]) rfl rfl (by decide) rfl ?_
      refine aw rfl rfl ?_
      have hln := n_land_i (T := T) (LW := lwf W) (l := S 0 * 3 + S 1) (x := nI (S 4 * T.1 5 + (i - 1) * T.1 5))
      rw [show (S 0 * 3 + S 1) / 3 = S 0 by omega, nI_add, show S 4 * T.1 5 + (i - 1) * T.1 5 + T.1 5 = (S 4 + i) * T.1 5 by rw [show S 4 + i = S 4 + (i - 1) + 1 by omega, Nat.add_mul, Nat.add_mul, Nat.one_mul]] at hln
      have e5 : ctN (fun j => decide (n_land T (lwf W) (S 0 * 3 + S 1) 24 (nI (S 4 * T.1 5 + j * T.1 5)) = -1)) (i + 1 - 1) = ctN (fun j => decide (n_land T (lwf W) (S 0 * 3 + S 1) 24 (nI (S 4 * T.1 5 + j * T.1 5)) = -1)) (i - 1) + 0 := by
        have h9 : ctN (fun j => decide (n_land T (lwf W) (S 0 * 3 + S 1) 24 (nI (S 4 * T.1 5 + j * T.1 5)) = -1)) (i - 1 + 1) = ctN (fun j => decide (n_land T (lwf W) (S 0 * 3 + S 1) 24 (nI (S 4 * T.1 5 + j * T.1 5)) = -1)) (i - 1) + (bif decide _ then 1 else 0) := rfl
        rw [show i + 1 - 1 = i - 1 + 1 by omega, h9, hln, if_neg hc, decide_eq_false (n_m1 (by omega))]
        rfl
      have ih := ih (u0, u1) (by omega)
      rw [e5] at ih
      exact ih
  · skip
    obtain ⟨u0, u1⟩ := y
    dsimp only
    have hC := hC.ua (v0 := u0) (v1 := u1)
    rw [wl_cnt] at q
    rw [show a + 1 - 1 = a by omega]
    have hcl := ctN_le (P := fun j => decide (n_land T (lwf W) (S 0 * 3 + S 1) 24 (nI (S 4 * T.1 5 + j * T.1 5)) = -1)) a
    by_cases hcw : ctN (fun j => decide (n_land T (lwf W) (S 0 * 3 + S 1) 24 (nI (S 4 * T.1 5 + j * T.1 5)) = -1)) a ≤ S 2
    · rw [if_pos hcw] at q
      rw [pk_sub hcw]
      refine aw rfl rfl ?_
      refine aw rfl rfl ?_
      refine aw_igtn rfl (fun c14 => ?_) (fun c14 => by omega)
      refine aw rfl rfl ?_
      refine aw_gen rfl ?_
      refine aw rfl rfl ?_
      refine aw_getf rfl cg_8 rfl ?_
      refine aw rfl rfl ?_
      refine aw_getf rfl cg_8 rfl ?_
      refine aw_getfE rfl cg_46 rfl (congrArg Value.int (hC.st 4 (by decide))) ?_
      refine aw rfl rfl ?_
      refine aw_addn rfl ?_
      refine aw rfl rfl ?_
      refine aw_c (v := -1) rfl (by decide) ?_
      refine aw_c (v := -1) rfl (by decide) ?_
      refine aw_cv (d1 := 5) (L1 := 129) rfl rfl cg_105 rfl rfl (by decide) (by decide) (Nat.le_of_ble_eq_true rfl) (c_lookC (r := none) (gq := none) hC (fun j z => nomatch z) (fun j z => nomatch z) (d := a) ⟨hn, by omega⟩ (fun g9 u0 u1 K rf hg9 hC hfa hfl => ?_))
      refine aw rfl rfl ?_
      refine aw_getf rfl cg_8 rfl ?_
      refine aw rfl rfl ?_
      refine aw_getf rfl cg_8 rfl ?_
      refine aw_cv (d1 := 1) (L1 := 21) rfl rfl cg_46 rfl rfl (by decide) (by decide) (Nat.le_of_ble_eq_true rfl) (c_X6_lie hC.st ?_)
      refine aw rfl rfl ?_
      refine aw_cv (d1 := 1) (L1 := 22) rfl rfl cg_105 rfl rfl (by decide) (by decide) (Nat.le_of_ble_eq_true rfl) (c_chance hC.cx.2.2.2.2.2.2.2.2.2.2.1 hfa g4 s0 (by omega) ?_)
      exact aw_iret rfl rfl (by rw [show S 4 * T.1 5 + a * T.1 5 = (S 4 + a) * T.1 5 by rw [Nat.add_mul]] at q; exact q _ _ _ _ _ hg9 hC)
    · rw [if_neg hcw] at q
      refine aw rfl rfl ?_
      refine aw rfl rfl ?_
      refine aw_igtn rfl (fun c14 => ?_) (fun c14 => by omega)
      refine aw rfl rfl ?_
      refine aw_ge rfl (fun c62 => absurd (pk_sneg (by omega) (by omega)) (Int32.not_lt.mpr c62)) (fun c62 => ?_)
      refine aw_c (v := nI 0) rfl (by decide) ?_
      exact aw_iret rfl rfl (q _ _ _ _ _ GX.rf hC)
theorem c_X10_goBy {Q : Option Value → am_H → Prop} (hC : CS g T0 u0 T1 u1 K rf p T W S u P td TD hd Z nt tp pc cc) {x : Int32} (q : ∀ g' u0 u1 K' rf', GX g g' K.2.2.2.2 K'.2.2.2.2 → CS g' T0 u0 T1 u1 K' rf' p T W S u P td TD hd Z nt tp pc cc → Q (some (.int (a_goBy T (lwf W) S x))) (ch g' T0 u0 T1 u1 K' rf')) : AC am_P 7 179 170 [.ref 8, .int x] (ch g T0 u0 T1 u1 K rf) Q := by
  refine AC.of (ls := [_, _, _, _, _, _]) rfl ?_
  have hp := hC.cx.1
  have hG := hC.cx.2.1
  have hG0 := hG
  obtain ⟨⟨g0, g0x⟩, ⟨g1, g1x⟩, ⟨g2, g2x⟩, ⟨g3, g3x⟩, g4, ⟨g5, g5x⟩, g6, gsq, goc, gwt, gsp, gfr⟩ := hG
  obtain ⟨s0, s1, s2, s3, s4, s5, s6⟩ := hC.sc
  have hl96 := s0.1
  unfold a_goBy at q
  have hS6 : S 6 ≤ 2 := by rcases s6 with h | h | h <;> omega
  refine aw rfl rfl ?_
  refine aw_cs (d1 := 0) (L1 := 0) rfl rfl (by decide) (by decide) (Nat.le_of_ble_eq_true rfl) (c_X10_isSpan (fun n e hn => ?_) (fun p9 => ?_))
  · refine aw_ne rfl (fun _ => ?_) (fun c => absurd c (by decide))
    subst e
    rw [sp_in (Nat.zero_le _) hn (by decide)] at q
    have h6p := p6_le hn
    have h6q := p6_pos n
    have hF : ∀ l w, Fc T (lwf W) none (hm T) n (S 4 * T.1 5) l w ≤ 6 ^ n := Fc_le (r := none) hG0 (fun j z => nomatch z) _ _
    refine aw rfl rfl ?_
    refine aw_getf rfl cg_8 rfl ?_
    refine aw_getfE rfl cg_46 rfl (congrArg Value.int (hC.st 6 (by decide))) ?_
    refine aw_eqn rfl (fun c16 => ?_) (fun c16 => ?_)
    · rw [if_pos c16] at q
      have h60 := c16
      refine aw_c (v := -1) rfl (by decide) ?_
      refine aw_ist (ls' := [_, _, _, _, _, _]) rfl rfl ?_
      refine aw_c (v := nI 0) rfl (by decide) ?_
      refine aw_ist (ls' := [_, _, _, _, _, _]) rfl rfl ?_
      refine aw_c (v := nI 0) rfl (by decide) ?_
      refine aw_ist (ls' := [_, _, _, _, _, _]) rfl rfl ?_
      refine aw_loop (α := (am_H × Ua × Ua × Ck × (Nat → Nat)) × Option Value) (ll := fun i y => [some (.ref 8), some (.int (nI n)), some (.int (bs2 (bs (gbF T (lwf W) n (S 0 * 3 + S 1) (S 4 * T.1 5) (S 2)) tt i))), some (.int (nI (bsA (bs (gbF T (lwf W) n (S 0 * 3 + S 1) (S 4 * T.1 5) (S 2)) tt i)))), some (.int (nI i)), y.2]) (hh := fun i y => ch y.1.1 T0 y.1.2.1 T1 y.1.2.2.1 y.1.2.2.2.1 y.1.2.2.2.2) (I := fun i y => GX g y.1.1 K.2.2.2.2 y.1.2.2.2.1.2.2.2.2 ∧ CS y.1.1 T0 y.1.2.1 T1 y.1.2.2.1 y.1.2.2.2.1 y.1.2.2.2.2 p T W S u P td TD hd Z nt tp pc cc) (N := 6) (fun i y hi hI ih => ?_) (fun y hI => ?_) 0 ((g, u0, u1, K, rf), none) (Nat.zero_le _) ⟨GX.rf, hC⟩
      · skip
        obtain ⟨⟨g2, u0, u1, K2, rf2⟩, l5⟩ := y
        obtain ⟨i1, hC⟩ := hI
        dsimp only at i1 hC ⊢
        have hb : ∀ j, (gbF T (lwf W) n (S 0 * 3 + S 1) (S 4 * T.1 5) (S 2)) j < 2147483648 := fun j => by
          unfold gbF
          cases wl T (lwf W) (S 0 * 3 + S 1) (S 4 * T.1 5) (S 2) j with
          | none => exact (by decide : 0 < 2147483648)
          | some u => have := Fc_le (LW := lwf W) (gl := hm T) (r := none) hG0 (fun j z => nomatch z) n (S 4 * T.1 5 + j * T.1 5) (S 0 * 3 + S 1) u; show Fc _ _ _ _ _ _ _ _ < _; omega
        refine aw rfl rfl ?_
        refine aw_c (v := nI 5) rfl (by decide) ?_
        refine aw_igtn rfl (fun c32 => by omega) (fun c32 => ?_)
        refine aw rfl rfl ?_
        refine aw rfl rfl ?_
        refine aw rfl rfl ?_
        refine aw_cv (d1 := 6) (L1 := 155) rfl rfl cg_8 rfl rfl (by decide) (by decide) (Nat.le_of_ble_eq_true rfl) (c_X10_chanceBehind hC (by omega) hn h60 (fun g9 u0 u1 K rf hg9 hC => ?_))
        refine aw_ist (ls' := [_, _, _, _, _, _]) rfl rfl ?_
        refine aw rfl rfl ?_
        refine aw rfl rfl ?_
        refine aw_ile rfl (fun c47 => ?_) (fun c47 => ?_)
        · refine aw_incn (c := 1) (ls' := [_, _, _, _, _, _]) rfl rfl (by decide) rfl ?_
          refine aw rfl rfl ?_
          have e5 : (bs (gbF T (lwf W) n (S 0 * 3 + S 1) (S 4 * T.1 5) (S 2)) tt (i + 1)) = (bs (gbF T (lwf W) n (S 0 * 3 + S 1) (S 4 * T.1 5) (S 2)) tt i) := bs_no hb rfl c47
          have ih := ih ((g9, u0, u1, K, rf), some (.int (nI ((gbF T (lwf W) n (S 0 * 3 + S 1) (S 4 * T.1 5) (S 2)) i)))) ⟨i1.tr hg9, hC⟩
          rw [e5] at ih
          exact ih
        · refine aw rfl rfl ?_
          refine aw_ist (ls' := [_, _, _, _, _, _]) rfl rfl ?_
          refine aw rfl rfl ?_
          refine aw_ist (ls' := [_, _, _, _, _, _]) rfl rfl ?_
          refine aw_incn (c := 1) (ls' := [_, _, _, _, _, _]) rfl rfl (by decide) rfl ?_
          refine aw rfl rfl ?_
          have e5 : (bs (gbF T (lwf W) n (S 0 * 3 + S 1) (S 4 * T.1 5) (S 2)) tt (i + 1)) = some (i, (gbF T (lwf W) n (S 0 * 3 + S 1) (S 4 * T.1 5) (S 2)) i) := bs_yes hb rfl c47
          have ih := ih ((g9, u0, u1, K, rf), some (.int (nI ((gbF T (lwf W) n (S 0 * 3 + S 1) (S 4 * T.1 5) (S 2)) i)))) ⟨i1.tr hg9, hC⟩
          rw [e5] at ih
          exact ih
      · skip
        obtain ⟨⟨g2, u0, u1, K2, rf2⟩, l5⟩ := y
        obtain ⟨i1, hC⟩ := hI
        dsimp only at i1 hC ⊢
        refine aw rfl rfl ?_
        refine aw_c (v := nI 5) rfl (by decide) ?_
        refine aw_igt rfl (fun _ => ?_) (fun c => absurd (by decide) c)
        refine aw rfl rfl ?_
        exact aw_iret rfl rfl (q _ _ _ _ _ i1 hC)
    · rw [if_neg c16] at q
      refine aw_c (v := -2) rfl (by decide) ?_
      exact aw_iret rfl rfl (q _ _ _ _ _ GX.rf hC)
  · refine aw_ne rfl (fun c => absurd (by decide) c) (fun _ => ?_)
    refine aw_c (v := -1) rfl (by decide) ?_
    exact aw_iret rfl rfl (by rw [sp_out (n_spo p9)] at q; exact q _ _ _ _ _ GX.rf hC)
theorem c_X10_plan {Q : Option Value → am_H → Prop} (hC : CS g T0 u0 T1 u1 K rf p T W S u P td TD hd Z nt tp pc cc) {x y z : Int32} (q : ∀ g' u0 u1 K' rf', GX g g' K.2.2.2.2 K'.2.2.2.2 → CS g' T0 u0 T1 u1 K' rf' p T W S u P td TD hd Z nt tp pc cc → Q (some (.int (a_plan T (lwf W) S x y z))) (ch g' T0 u0 T1 u1 K' rf')) : AC am_P 7 178 172 [.ref 8, .int x, .int y, .int z] (ch g T0 u0 T1 u1 K rf) Q := by
  refine AC.of (ls := [_, _, _, _, _]) rfl ?_
  have hp := hC.cx.1
  have hG := hC.cx.2.1
  have hG0 := hG
  obtain ⟨⟨g0, g0x⟩, ⟨g1, g1x⟩, ⟨g2, g2x⟩, ⟨g3, g3x⟩, g4, ⟨g5, g5x⟩, g6, gsq, goc, gwt, gsp, gfr⟩ := hG
  obtain ⟨s0, s1, s2, s3, s4, s5, s6⟩ := hC.sc
  have hl96 := s0.1
  unfold a_plan at q
  have h12 : S 1 < T.1 2 := by have := s0.2.2.2.1; omega
  refine aw rfl rfl ?_
  refine aw_getfE rfl cg_8 rfl (congrArg Value.ref hC.cx.2.2.2.2.2.1) ?_
  refine aw rfl rfl ?_
  refine aw rfl rfl ?_
  refine aw_cv (d1 := 0) (L1 := 0) rfl rfl (sa hp).1 rfl rfl (by decide) (by decide) (Nat.le_of_ble_eq_true rfl) (c_sq hC (fun a e6 z6 ea ee ha he hz ez => ?_) (fun pz => ?_))
  · refine aw_ist (ls' := [_, _, _, _, _]) rfl rfl ?_
    refine aw rfl rfl ?_
    refine aw_cs (d1 := 0) (L1 := 0) rfl rfl (by decide) (by decide) (Nat.le_of_ble_eq_true rfl) (c_X10_isSpan (fun n e hn => ?_) (fun p9 => ?_))
    · refine aw_eq rfl (fun c => absurd c (by decide)) (fun _ => ?_)
      subst e
      refine aw rfl rfl ?_
      refine aw_eqn rfl (fun c19 => ?_) (fun c19 => ?_)
      · refine aw_c (v := -1) rfl (by decide) ?_
        exact aw_iret rfl rfl (by subst c19; rw [sp_out (Or.inl (by decide))] at q; exact q _ _ _ _ _ GX.rf hC)
      · refine aw rfl rfl ?_
        refine aw_c (v := -1) rfl (by decide) ?_
        refine aw_inem rfl ?_
        have hn1 : 1 ≤ n := by omega
        subst ea ee
        rw [sp_in hn1 hn (by decide), pl_yes g0x g1x ha he] at q
        refine aw rfl rfl ?_
        refine aw_c (v := nI 3) rfl (by decide) ?_
        refine aw_igtn rfl (fun c33 => ?_) (fun c33 => ?_)
        · refine aw_c (v := -2) rfl (by decide) ?_
          exact aw_iret rfl rfl (by rw [if_pos (show T.2 0 (e6 * 8 + a) = nI 6 ∨ T.2 0 (e6 * 8 + a) = nI 4 ∨ T.2 0 (e6 * 8 + a) = nI 5 from by rw [ez]; exact n_456 hz c33)] at q; exact q _ _ _ _ _ GX.rf hC)
        · refine aw rfl rfl ?_
          refine aw rfl rfl ?_
          refine aw rfl rfl ?_
          refine aw_cs (d1 := 0) (L1 := 0) rfl rfl (by decide) (by decide) (Nat.le_of_ble_eq_true rfl) (c_X10_squareOf ?_)
          refine aw rfl rfl ?_
          refine aw_cv (d1 := 6) (L1 := 156) rfl rfl cg_8 rfl rfl (by decide) (by decide) (Nat.le_of_ble_eq_true rfl) (c_X10_bestFrom hC (lie_on ha he h12 g0x g1x g2x (by rw [ez]; exact fun w => by have := (nI_eq (by omega) (by decide)).mp w; omega) (by rw [ez]; exact fun w => by have := (nI_eq (by omega) (by decide)).mp w; omega)) (decide_eq_false (by rw [show ((e6 * 8 + a) * 3 + S 1) / 3 = e6 * 8 + a by omega, ez]; exact fun w => by have := (nI_eq (by omega) (by decide)).mp w; omega)) hn1 hn (fun g9 u0 u1 K rf hg9 hC => ?_))
          refine aw rfl rfl ?_
          exact aw_iret rfl rfl (by rw [if_neg (show ¬ (T.2 0 (e6 * 8 + a) = nI 6 ∨ T.2 0 (e6 * 8 + a) = nI 4 ∨ T.2 0 (e6 * 8 + a) = nI 5) from by rw [ez]; exact fun w => w.elim (fun w => by have := (nI_eq (by omega) (by decide)).mp w; omega) (fun w => w.elim (fun w => by have := (nI_eq (by omega) (by decide)).mp w; omega) (fun w => by have := (nI_eq (by omega) (by decide)).mp w; omega)))] at q; exact q _ _ _ _ _ hg9 hC)
    · refine aw_eq rfl (fun _ => ?_) (fun c => absurd (by decide) c)
      refine aw_c (v := -1) rfl (by decide) ?_
      exact aw_iret rfl rfl (by rw [sp_out (n_spo1 p9)] at q; exact q _ _ _ _ _ GX.rf hC)
  · refine aw_ist (ls' := [_, _, _, _, _]) rfl rfl ?_
    refine aw rfl rfl ?_
    refine aw_cs (d1 := 0) (L1 := 0) rfl rfl (by decide) (by decide) (Nat.le_of_ble_eq_true rfl) (c_X10_isSpan (fun n e hn => ?_) (fun p9 => ?_))
    · refine aw_eq rfl (fun c => absurd c (by decide)) (fun _ => ?_)
      subst e
      refine aw rfl rfl ?_
      refine aw_eqn rfl (fun c19 => ?_) (fun c19 => ?_)
      · refine aw_c (v := -1) rfl (by decide) ?_
        exact aw_iret rfl rfl (by subst c19; rw [sp_out (Or.inl (by decide))] at q; exact q _ _ _ _ _ GX.rf hC)
      · refine aw rfl rfl ?_
        refine aw_c (v := -1) rfl (by decide) ?_
        refine aw_ine rfl (fun c => absurd (by decide) c) (fun _ => ?_)
        refine aw_c (v := -1) rfl (by decide) ?_
        exact aw_iret rfl rfl (by rw [sp_in (show 1 ≤ n by omega) hn (by decide), pl_no pz] at q; exact q _ _ _ _ _ GX.rf hC)
    · refine aw_eq rfl (fun _ => ?_) (fun c => absurd (by decide) c)
      refine aw_c (v := -1) rfl (by decide) ?_
      exact aw_iret rfl rfl (by rw [sp_out (n_spo1 p9)] at q; exact q _ _ _ _ _ GX.rf hC)
theorem c_X10_isTrap {Q : Option Value → am_H → Prop} (hC : CS g T0 u0 T1 u1 K rf p T W S u P td TD hd Z nt tp pc cc) {n s : Nat} (hn : n ≤ 10) (hfa : FA T (K.2.1 (rf 6)) (Fc T (lwf W) none (hm T) n (S 4 * T.1 5))) (hl : lieOK T (s * 3)) (q : Q (some (.int (bI (allz (fun f => Fc T (lwf W) none (hm T) n (S 4 * T.1 5) (s * 3 + f) (S 2)) (T.1 2))))) (ch g T0 u0 T1 u1 K rf)) : AC am_P 2 45 174 [.ref 8, .int (nI s)] (ch g T0 u0 T1 u1 K rf) Q := by
  refine AC.of (ls := [_, _, _]) rfl ?_
  have hp := hC.cx.1
  have hG := hC.cx.2.1
  have hG0 := hG
  obtain ⟨⟨g0, g0x⟩, ⟨g1, g1x⟩, ⟨g2, g2x⟩, ⟨g3, g3x⟩, g4, ⟨g5, g5x⟩, g6, gsq, goc, gwt, gsp, gfr⟩ := hG
  obtain ⟨s0, s1, s2, s3, s4, s5, s6⟩ := hC.sc
  have hl96 := s0.1
  have hl962 := hl.1
  have h6p := p6_le hn
  have hF : ∀ l w, Fc T (lwf W) none (hm T) n (S 4 * T.1 5) l w ≤ 6 ^ n := Fc_le (r := none) hG0 (fun j z => nomatch z) _ _
  refine aw_c (v := nI 0) rfl (by decide) ?_
  refine aw_ist (ls' := [_, _, _]) rfl rfl ?_
  refine aw_loop (α := Unit) (ll := fun i y => [some (.ref 8), some (.int (nI s)), some (.int (nI i))]) (hh := fun i y => (ch g T0 u0 T1 u1 K rf)) (I := fun i y => allz (fun f => Fc T (lwf W) none (hm T) n (S 4 * T.1 5) (s * 3 + f) (S 2)) i = true) (N := T.1 2) (fun i y hi hI ih => ?_) (fun y hI => ?_) 0 () (Nat.zero_le _) rfl
  · skip
    have hl1 : lieOK T (s * 3 + i) := lie_face (s := s) (f := 0) hl (by decide) hi g2x
    have hFi := hF (s * 3 + i) (S 2)
    refine aw rfl rfl ?_
    refine aw rfl rfl ?_
    refine aw_getfE rfl cg_8 rfl (congrArg Value.ref hC.cx.2.2.2.2.2.1) ?_
    refine aw_getf rfl (sa hp).1 rfl ?_
    refine aw_igen rfl (fun c10 => by omega) (fun c10 => ?_)
    refine aw rfl rfl ?_
    refine aw_getf rfl cg_8 rfl ?_
    refine aw rfl rfl ?_
    refine aw rfl rfl ?_
    refine aw_cs (d1 := 0) (L1 := 0) rfl rfl (by decide) (by decide) (Nat.le_of_ble_eq_true rfl) (c_X10_lieOf ?_)
    refine aw rfl rfl ?_
    refine aw_getf rfl cg_8 rfl ?_
    refine aw_getfE rfl cg_46 rfl (congrArg Value.int (hC.st 2 (by decide))) ?_
    refine aw_cv (d1 := 1) (L1 := 22) rfl rfl cg_105 rfl rfl (by decide) (by decide) (Nat.le_of_ble_eq_true rfl) (c_chance hC.cx.2.2.2.2.2.2.2.2.2.2.1 hfa g4 hl1 (by omega) ?_)
    refine aw_eqn rfl (fun c32 => ?_) (fun c32 => ?_)
    · refine aw_incn (c := 1) (ls' := [_, _, _]) rfl rfl (by decide) rfl ?_
      refine aw rfl rfl ?_
      exact ih () (by show (allz _ i && decide _) = true; rw [hI, decide_eq_true c32]; rfl)
    · refine aw_c (v := nI 0) rfl (by decide) ?_
      exact aw_iret rfl rfl (by rw [allz_no (f := fun f => Fc T (lwf W) none (hm T) n (S 4 * T.1 5) (s * 3 + f) (S 2)) (i := i) c32 _ hi] at q; exact q)
  · skip
    refine aw rfl rfl ?_
    refine aw rfl rfl ?_
    refine aw_getfE rfl cg_8 rfl (congrArg Value.ref hC.cx.2.2.2.2.2.1) ?_
    refine aw_getf rfl (sa hp).1 rfl ?_
    refine aw_igen rfl (fun c10 => ?_) (fun c10 => by omega)
    refine aw_c (v := nI 1) rfl (by decide) ?_
    exact aw_iret rfl rfl (by rw [hI] at q; exact q)
theorem c_X10_trap {Q : Option Value → am_H → Prop} (hC : CS g T0 u0 T1 u1 K rf p T W S u P td TD hd Z nt tp pc cc) {x : Int32} (q : ∀ g' u0 u1 K' rf', GX g g' K.2.2.2.2 K'.2.2.2.2 → CS g' T0 u0 T1 u1 K' rf' p T W S u P td TD hd Z nt tp pc cc → Q (some (.int (a_trap T (lwf W) S x))) (ch g' T0 u0 T1 u1 K' rf')) : AC am_P 6 155 173 [.ref 8, .int x] (ch g T0 u0 T1 u1 K rf) Q := by
  refine AC.of (ls := [_, _, _, _]) rfl ?_
  have hp := hC.cx.1
  have hG := hC.cx.2.1
  have hG0 := hG
  obtain ⟨⟨g0, g0x⟩, ⟨g1, g1x⟩, ⟨g2, g2x⟩, ⟨g3, g3x⟩, g4, ⟨g5, g5x⟩, g6, gsq, goc, gwt, gsp, gfr⟩ := hG
  obtain ⟨s0, s1, s2, s3, s4, s5, s6⟩ := hC.sc
  have hl96 := s0.1
  unfold a_trap at q
  refine aw rfl rfl ?_
  refine aw_cs (d1 := 0) (L1 := 0) rfl rfl (by decide) (by decide) (Nat.le_of_ble_eq_true rfl) (c_X10_isSpan (fun n e hn => ?_) (fun p9 => ?_))
  · refine aw_ne rfl (fun _ => ?_) (fun c => absurd c (by decide))
    subst e
    rw [sp_in (Nat.zero_le _) hn (by decide)] at q
    have h6p := p6_le hn
    have h6q := p6_pos n
    have hF : ∀ l w, Fc T (lwf W) none (hm T) n (S 4 * T.1 5) l w ≤ 6 ^ n := Fc_le (r := none) hG0 (fun j z => nomatch z) _ _
    refine aw rfl rfl ?_
    refine aw_getf rfl cg_8 rfl ?_
    refine aw rfl rfl ?_
    refine aw_getf rfl cg_8 rfl ?_
    refine aw_getfE rfl cg_46 rfl (congrArg Value.int (hC.st 4 (by decide))) ?_
    refine aw rfl rfl ?_
    refine aw_c (v := -1) rfl (by decide) ?_
    refine aw_c (v := -1) rfl (by decide) ?_
    refine aw_cv (d1 := 5) (L1 := 129) rfl rfl cg_105 rfl rfl (by decide) (by decide) (Nat.le_of_ble_eq_true rfl) (c_lookC (r := none) (gq := none) hC (fun j z => nomatch z) (fun j z => nomatch z) (d := 0) ⟨hn, by omega⟩ (fun g9 u0 u1 K rf hg9 hC hfa hfl => ?_))
    refine aw_c (v := nI 0) rfl (by decide) ?_
    refine aw_ist (ls' := [_, _, _, _]) rfl rfl ?_
    refine aw_c (v := nI 0) rfl (by decide) ?_
    refine aw_ist (ls' := [_, _, _, _]) rfl rfl ?_
    refine aw_loop (α := Unit) (ll := fun i y => [some (.ref 8), some (.int (nI n)), some (.int (nI (ctN (trp T (Fc T (lwf W) none (hm T) n (S 4 * T.1 5)) (S 2)) i))), some (.int (nI i))]) (hh := fun i y => (ch g9 T0 u0 T1 u1 K rf)) (I := fun i y => True) (N := 32) (fun i y hi hI ih => ?_) (fun y hI => ?_) 0 () (Nat.zero_le _) trivial
    · skip
      have hct := ctN_le (P := (trp T (Fc T (lwf W) none (hm T) n (S 4 * T.1 5)) (S 2))) i
      have b1 : ∀ b : Bool, bI b = 0 → b = false := by decide
      have b2 : ∀ b : Bool, ¬ bI b = 0 → b = true := by decide
      refine aw rfl rfl ?_
      refine aw_c (v := nI 32) rfl (by decide) ?_
      refine aw_igen rfl (fun c33 => by omega) (fun c33 => ?_)
      refine aw rfl rfl ?_
      refine aw_getfE rfl cg_8 rfl (congrArg Value.ref hC.cx.2.2.2.2.2.1) ?_
      refine aw rfl rfl ?_
      refine aw_cv (d1 := 1) (L1 := 21) rfl rfl (sa hp).1 rfl rfl (by decide) (by decide) (Nat.le_of_ble_eq_true rfl) (c_X7_canLie (sa hp) (by omega) (fun k1 k4 k5 => ?_) (fun k => ?_))
      · have hin : i % 8 < T.1 0 ∧ i / 8 < T.1 1 := Classical.byContradiction (fun z => k1 ((gsq i (by omega)).2 z))
        have hlk : lkB T i = true := by unfold lkB; rw [decide_eq_true hin.1, decide_eq_true hin.2, decide_eq_false k4, decide_eq_false k5]; rfl
        have hl1 := (lkB_iff hG0 (by omega)).mp hlk
        refine aw_eq rfl (fun c => absurd c (by decide)) (fun _ => ?_)
        refine aw rfl rfl ?_
        refine aw rfl rfl ?_
        refine aw_cv (d1 := 2) (L1 := 45) rfl rfl cg_8 rfl rfl (by decide) (by decide) (Nat.le_of_ble_eq_true rfl) (c_X10_isTrap (s := i) hC hn hfa hl1 ?_)
        refine aw_eq rfl (fun c52 => ?_) (fun c52 => ?_)
        · refine aw_incn (c := 1) (ls' := [_, _, _, _]) rfl rfl (by decide) rfl ?_
          refine aw rfl rfl ?_
          have e9 : ctN (trp T (Fc T (lwf W) none (hm T) n (S 4 * T.1 5)) (S 2)) (i + 1) = ctN (trp T (Fc T (lwf W) none (hm T) n (S 4 * T.1 5)) (S 2)) i + 0 := by show ctN _ i + (bif trp T _ _ i then 1 else 0) = _; unfold trp; rw [hlk, b1 _ c52]; rfl
          have ih := ih () trivial
          rw [e9] at ih
          exact ih
        · refine aw_incn (c := 1) (ls' := [_, _, _, _]) rfl rfl (by decide) rfl ?_
          refine aw_incn (c := 1) (ls' := [_, _, _, _]) rfl rfl (by decide) rfl ?_
          refine aw rfl rfl ?_
          have e9 : ctN (trp T (Fc T (lwf W) none (hm T) n (S 4 * T.1 5)) (S 2)) (i + 1) = ctN (trp T (Fc T (lwf W) none (hm T) n (S 4 * T.1 5)) (S 2)) i + 1 := by show ctN _ i + (bif trp T _ _ i then 1 else 0) = _; unfold trp; rw [hlk, b2 _ c52]; rfl
          have ih := ih () trivial
          rw [e9] at ih
          exact ih
      · have hlk : lkB T i = false := by unfold lkB; rcases k with k | k | k; exact lk_m1 hG0 (by omega) k; rw [decide_eq_true k, Bool.not_true, Bool.and_false]; rfl; rw [decide_eq_true k, Bool.not_true, Bool.and_false]
        refine aw_eq rfl (fun _ => ?_) (fun c => absurd (by decide) c)
        refine aw_incn (c := 1) (ls' := [_, _, _, _]) rfl rfl (by decide) rfl ?_
        refine aw rfl rfl ?_
        have e9 : ctN (trp T (Fc T (lwf W) none (hm T) n (S 4 * T.1 5)) (S 2)) (i + 1) = ctN (trp T (Fc T (lwf W) none (hm T) n (S 4 * T.1 5)) (S 2)) i + 0 := by show ctN _ i + (bif trp T _ _ i then 1 else 0) = _; unfold trp; rw [hlk]; rfl
        have ih := ih () trivial
        rw [e9] at ih
        exact ih
    · skip
      refine aw rfl rfl ?_
      refine aw_c (v := nI 32) rfl (by decide) ?_
      refine aw_ige rfl (fun _ => ?_) (fun c => absurd (by decide) c)
      refine aw rfl rfl ?_
      exact aw_iret rfl rfl (q _ _ _ _ _ hg9 hC)
  · refine aw_ne rfl (fun c => absurd (by decide) c) (fun _ => ?_)
    refine aw_c (v := -1) rfl (by decide) ?_
    exact aw_iret rfl rfl (by rw [sp_out (n_spo p9)] at q; exact q _ _ _ _ _ GX.rf hC)
end C1
