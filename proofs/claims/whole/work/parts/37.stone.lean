/-! ===== the stone, as both hold it: 0 square, 1 face, 2 lives, 3 lives lost, 4 kicks and waits done, 5 touches, 6 state ===== -/
def NR (T : Sd) (f : Nat → Int32) (S : Nat → Nat) : Prop := f 0 = nI (S 0 % 8) ∧ f 1 = nI (S 0 / 8) ∧ f 2 = nI (S 1) ∧ f 3 = nI (S 2) ∧ f 4 = nI (S 4) ∧ f 5 = nI (S 4 * T.1 5) ∧ f 6 = nI (S 5) ∧ f 7 = nI (if S 6 = 2 then 1 else 0) ∧ f 8 = nI (S 3)
def SG (T : Sd) (S : Nat → Nat) : Prop := lieOK T (S 0 * 3 + S 1) ∧ S 1 < 3 ∧ S 2 ≤ T.1 4 ∧ S 4 ≤ 1000 ∧ S 5 ≤ 1000 ∧ S 3 ≤ 2 ∧ (S 6 = 2 ∨ (hm T (S 0 * 3 + S 1) = true ∧ S 6 = 1) ∨ (hm T (S 0 * 3 + S 1) = false ∧ S 6 = 0))
def bI (b : Bool) : Int32 := bif b then nI 1 else nI 0
def fr (a m : Nat) (b : Bool) : Nat := (bif b then m else a) / Nat.gcd a m
def sp (x : Int32) (lo hi : Nat) (f : Nat → Int32) : Int32 := if nI lo ≤ x ∧ x ≤ nI hi then f x.toNatClampNeg else -1
theorem sp_in {lo hi n : Nat} {f : Nat → Int32} (h1 : lo ≤ n) (h2 : n ≤ hi) (h3 : hi < 2147483648) : sp (nI n) lo hi f = f n := by
  unfold sp
  rw [if_pos ⟨nI_le h1 (by omega), nI_le h2 h3⟩, nI_clamp (by omega)]
theorem sp_out {x : Int32} {lo hi : Nat} {f : Nat → Int32} (h : ¬ nI lo ≤ x ∨ ¬ x ≤ nI hi) : sp x lo hi f = -1 := by
  unfold sp
  rw [if_neg (fun z => h.elim (fun y => y z.1) (fun y => y z.2))]
theorem n_of3 {x : Int32} {lo hi : Nat} (h1 : nI lo ≤ x) (h2 : x ≤ nI hi) (h3 : hi < 2147483648) (h4 : lo < 2147483648) : ∃ n : Nat, x = nI n ∧ lo ≤ n ∧ n ≤ hi := by
  obtain ⟨n, hn, rfl⟩ := nI_of (x := x) (fun z => absurd (Int32.lt_of_le_of_lt h1 z) (nI_pos h4))
  exact ⟨n, rfl, (nI_leI h4 hn).mp h1, (nI_leI hn h3).mp h2⟩
theorem am_tg_out {a : Nat} {lo hi : Int} {offs : Array Int} {pc : Nat} {z : Int} (h : z < lo ∨ hi < z) : am_tg a lo hi offs pc z = some a := by
  unfold am_tg
  rw [if_pos h]
def cN (T : Sd) (LW : LWt) (S : Nat → Nat) (n : Nat) : Nat := if S 6 = 2 then 0 else Fc T LW none (hm T) n (S 4 * T.1 5) (S 0 * 3 + S 1) (S 2)
theorem p6_le {n : Nat} (h : n ≤ 10) : 6 ^ n < 100000000 := Nat.lt_of_le_of_lt (Nat.pow_le_pow_right (by decide) h) (by decide)
theorem p6_pos (n : Nat) : 0 < 6 ^ n := Nat.pow_pos (by decide)
theorem cN_le {T : Sd} {LW : LWt} {S : Nat → Nat} {n : Nat} (hG : GS T) : cN T LW S n ≤ 6 ^ n := by
  unfold cN
  by_cases h : S 6 = 2
  · rw [if_pos h]; exact Nat.zero_le _
  · rw [if_neg h]; exact Fc_le (r := none) hG (fun j z => nomatch z) _ _ _ _
section M1
variable {g : am_H} {k : Mk} {v pl : Nat → Int32} {br lo : Int32} {c ct pr pt cm bf bt : Nat → Int32}
variable {lv : Nat} {T : Sd} {W : Nat → Lw}
variable {S : Nat → Nat}
theorem l_common {Q : Option Value → am_H → Prop} : ∀ (y x : Nat) (l0 l1 : Int32) (l4 : Option Value), x < 2147483648 → y < 2147483648 → Q (some (.int (nI (Nat.gcd x y)))) (mh g k v pl br lo c ct pr pt cm bf bt) → AW am_P 0 0 263 4 [some (.int l0), some (.int l1), some (.int (nI x)), some (.int (nI y)), l4] [] (mh g k v pl br lo c ct pr pt cm bf bt) Q := by
  intro y
  induction y using Nat.strongRecOn with
  | _ y ih =>
    intro x l0 l1 l4 hx hy q
    refine aw rfl rfl ?_
    refine aw_eqn rfl (fun c5 => ?_) (fun c5 => ?_)
    · refine aw rfl rfl ?_
      exact aw_iret rfl rfl (by subst c5; rw [Nat.gcd_zero_right] at q; exact q)
    · refine aw rfl rfl ?_
      refine aw rfl rfl ?_
      refine aw_remn rfl (by omega) (by omega) (by omega) ?_
      refine aw_ist (ls' := [_, _, _, _, _]) rfl rfl ?_
      refine aw rfl rfl ?_
      refine aw_ist (ls' := [_, _, _, _, _]) rfl rfl ?_
      refine aw rfl rfl ?_
      refine aw_ist (ls' := [_, _, _, _, _]) rfl rfl ?_
      refine aw rfl rfl ?_
      exact ih (x % y) (Nat.mod_lt _ (by omega)) y _ _ _ hy (Nat.lt_of_le_of_lt (Nat.mod_le _ _) hx) (by rw [Nat.gcd_comm, ← Nat.gcd_rec, Nat.gcd_comm]; exact q)
theorem c_X11_common {Q : Option Value → am_H → Prop} {x y : Nat} (hx : x < 2147483648) (hy : y < 2147483648) (q : Q (some (.int (nI (Nat.gcd x y)))) (mh g k v pl br lo c ct pr pt cm bf bt)) : AC am_P 0 0 263 [.int (nI x), .int (nI y)] (mh g k v pl br lo c ct pr pt cm bf bt) Q := by
  refine AC.of (ls := [_, _, _, _, _]) rfl ?_
  refine aw rfl rfl ?_
  refine aw_ist (ls' := [_, _, _, _, _]) rfl rfl ?_
  refine aw rfl rfl ?_
  refine aw_ist (ls' := [_, _, _, _, _]) rfl rfl ?_
  exact l_common y x _ _ _ hx hy q
theorem c_X11_lineOf {Q : Option Value → am_H → Prop} {a m : Nat} {b : Bool} (ha : a < 2147483648) (hm : 0 < m) (hm2 : m < 2147483648) (q : Q (some (.int (nI (fr a m b)))) (mh g k v pl br lo c ct pr pt cm bf bt)) : AC am_P 1 24 262 [.int (nI a), .int (nI m), .int (bI b)] (mh g k v pl br lo c ct pr pt cm bf bt) Q := by
  refine AC.of (ls := [_, _, _, _]) rfl ?_
  have hg : 0 < Nat.gcd a m := Nat.gcd_pos_of_pos_right _ hm
  have hg2 : Nat.gcd a m < 2147483648 := Nat.lt_of_le_of_lt (Nat.gcd_le_right _ hm) hm2
  cases b
  · skip
    refine aw rfl rfl ?_
    refine aw rfl rfl ?_
    refine aw_cs (d1 := 0) (L1 := 0) rfl rfl (by decide) (by decide) (Nat.le_of_ble_eq_true rfl) (c_X11_common ha hm2 ?_)
    refine aw_ist (ls' := [_, _, _, _]) rfl rfl ?_
    refine aw rfl rfl ?_
    refine aw_eq rfl (fun _ => ?_) (fun c => absurd (by decide) c)
    refine aw rfl rfl ?_
    refine aw rfl rfl ?_
    refine aw_divn rfl (by omega) (by omega) (by omega) ?_
    exact aw_iret rfl rfl q
  · skip
    refine aw rfl rfl ?_
    refine aw rfl rfl ?_
    refine aw_cs (d1 := 0) (L1 := 0) rfl rfl (by decide) (by decide) (Nat.le_of_ble_eq_true rfl) (c_X11_common ha hm2 ?_)
    refine aw_ist (ls' := [_, _, _, _]) rfl rfl ?_
    refine aw rfl rfl ?_
    refine aw_eq rfl (fun c => absurd c (by decide)) (fun _ => ?_)
    refine aw rfl rfl ?_
    refine aw rfl rfl ?_
    refine aw rfl rfl ?_
    refine aw_divn rfl (by omega) (by omega) (by omega) ?_
    exact aw_iret rfl rfl q
theorem c_X11_isLong {Q : Option Value → am_H → Prop} {x : Int32} (q1 : ∀ n : Nat, n ≤ 10 → x = nI n → Q (some (.int (nI 1))) (mh g k v pl br lo c ct pr pt cm bf bt)) (q0 : (¬ nI 0 ≤ x ∨ ¬ x ≤ nI 10) → Q (some (.int (nI 0))) (mh g k v pl br lo c ct pr pt cm bf bt)) : AC am_P 1 22 254 [.int x] (mh g k v pl br lo c ct pr pt cm bf bt) Q := by
  refine AC.of (ls := [_]) rfl ?_
  refine aw rfl rfl ?_
  refine aw_c (v := nI 0) rfl (by decide) ?_
  refine aw_c (v := nI 10) rfl (by decide) ?_
  refine aw_cs (d1 := 0) (L1 := 0) rfl rfl (by decide) (by decide) (Nat.le_of_ble_eq_true rfl) (c_X11_in (fun p1 p2 => ?_) (fun p => ?_))
  · exact aw_iret rfl rfl (by obtain ⟨n, e, _, h⟩ := n_of3 p1 p2 (by decide) (by decide); exact q1 n h e)
  · exact aw_iret rfl rfl (q0 p)
theorem c_X11_stateNow {Q : Option Value → am_H → Prop} (hM : MR k lv T W) (hG : GS T) (hN : NR T (k.2.1 53) S) (hS : SG T S) (q1 : S 6 = 2 → Q (some (.int (nI 384))) (mh g k v pl br lo c ct pr pt cm bf bt)) (q0 : ¬ S 6 = 2 → Q (some (.int (nI (4 * (S 0 * 3 + S 1) + S 2)))) (mh g k v pl br lo c ct pr pt cm bf bt)) : AC am_P 1 23 221 [.ref 121] (mh g k v pl br lo c ct pr pt cm bf bt) Q := by
  refine AC.of (ls := [_]) rfl ?_
  have hM0 := hM
  have hG0 := hG
  obtain ⟨m0, m1, mr, mw, mf, mk, mli, mt, ms, msq, moc, mwy, msp, mlw⟩ := hM
  obtain ⟨⟨g0, g0x⟩, ⟨g1, g1x⟩, ⟨g2, g2x⟩, ⟨g3, g3x⟩, g4, ⟨g5, g5x⟩, g6, gsq, goc, gwt, gsp, gfr⟩ := hG
  have hN0 := hN
  have hS0 := hS
  obtain ⟨n0, n1, n2, n3, n4, n5, n6, n7, n8⟩ := hN
  obtain ⟨s0, s1, s2, s3, s4, s5, s6⟩ := hS
  by_cases e6 : S 6 = 2
  · rw [if_pos e6] at n7
    refine aw rfl rfl ?_
    refine aw_getf rfl mg_121 rfl ?_
    refine aw_c (v := nI 7) rfl (by decide) ?_
    refine aw_ialdE rfl mg_157 rfl (by omega) (by decide) n7 ?_
    refine aw_c (v := nI 1) rfl (by decide) ?_
    refine aw_ine rfl (fun c => absurd (by decide) c) (fun _ => ?_)
    refine aw_c (v := nI 384) rfl (by decide) ?_
    refine aw rfl rfl ?_
    exact aw_iret rfl rfl (q1 e6)
  · rw [if_neg e6] at n7
    refine aw rfl rfl ?_
    refine aw_getf rfl mg_121 rfl ?_
    refine aw_c (v := nI 7) rfl (by decide) ?_
    refine aw_ialdE rfl mg_157 rfl (by omega) (by decide) n7 ?_
    refine aw_c (v := nI 1) rfl (by decide) ?_
    refine aw_ine rfl (fun _ => ?_) (fun c => absurd c (by decide))
    refine aw rfl rfl ?_
    refine aw_getf rfl mg_121 rfl ?_
    refine aw_c (v := nI 0) rfl (by decide) ?_
    refine aw_ialdE rfl mg_157 rfl (by omega) (by decide) n0 ?_
    refine aw rfl rfl ?_
    refine aw_getf rfl mg_121 rfl ?_
    refine aw_c (v := nI 1) rfl (by decide) ?_
    refine aw_ialdE rfl mg_157 rfl (by omega) (by decide) n1 ?_
    refine aw rfl rfl ?_
    refine aw_getf rfl mg_121 rfl ?_
    refine aw_c (v := nI 2) rfl (by decide) ?_
    refine aw_ialdE rfl mg_157 rfl (by omega) (by decide) n2 ?_
    refine aw rfl rfl ?_
    refine aw_getf rfl mg_121 rfl ?_
    refine aw_c (v := nI 3) rfl (by decide) ?_
    refine aw_ialdE rfl mg_157 rfl (by omega) (by decide) n3 ?_
    refine aw_cs (d1 := 0) (L1 := 0) rfl rfl (by decide) (by decide) (Nat.le_of_ble_eq_true rfl) (c_num ?_)
    exact aw_iret rfl rfl (q0 e6)
theorem c_X11_isOver {Q : Option Value → am_H → Prop} (hM : MR k lv T W) (hG : GS T) (hN : NR T (k.2.1 53) S) (hS : SG T S) (q1 : ¬ S 6 = 0 → Q (some (.int (nI 1))) (mh g k v pl br lo c ct pr pt cm bf bt)) (q0 : S 6 = 0 → Q (some (.int (nI 0))) (mh g k v pl br lo c ct pr pt cm bf bt)) : AC am_P 3 64 236 [.ref 121] (mh g k v pl br lo c ct pr pt cm bf bt) Q := by
  refine AC.of (ls := [_]) rfl ?_
  have hM0 := hM
  have hG0 := hG
  obtain ⟨m0, m1, mr, mw, mf, mk, mli, mt, ms, msq, moc, mwy, msp, mlw⟩ := hM
  obtain ⟨⟨g0, g0x⟩, ⟨g1, g1x⟩, ⟨g2, g2x⟩, ⟨g3, g3x⟩, g4, ⟨g5, g5x⟩, g6, gsq, goc, gwt, gsp, gfr⟩ := hG
  have hN0 := hN
  have hS0 := hS
  obtain ⟨n0, n1, n2, n3, n4, n5, n6, n7, n8⟩ := hN
  obtain ⟨s0, s1, s2, s3, s4, s5, s6⟩ := hS
  have hl96 := s0.1
  have esq : k.2.1 24 (32 * lv + 8 * ((S 0 * 3 + S 1) / 3 / 8) + (S 0 * 3 + S 1) / 3 % 8) = T.2 0 ((S 0 * 3 + S 1) / 3) := by rw [msq _ _ s0.2.1 s0.2.2.1, show (S 0 * 3 + S 1) / 3 / 8 * 8 + (S 0 * 3 + S 1) / 3 % 8 = (S 0 * 3 + S 1) / 3 by omega]
  by_cases e6 : S 6 = 2
  · rw [if_pos e6] at n7
    refine aw rfl rfl ?_
    refine aw_getf rfl mg_121 rfl ?_
    refine aw_c (v := nI 7) rfl (by decide) ?_
    refine aw_ialdE rfl mg_157 rfl (by omega) (by decide) n7 ?_
    refine aw_c (v := nI 1) rfl (by decide) ?_
    refine aw_ieq rfl (fun _ => ?_) (fun c => absurd (by decide) c)
    refine aw_c (v := nI 1) rfl (by decide) ?_
    refine aw rfl rfl ?_
    exact aw_iret rfl rfl (q1 (by omega))
  · rw [if_neg e6] at n7
    refine aw rfl rfl ?_
    refine aw_getf rfl mg_121 rfl ?_
    refine aw_c (v := nI 7) rfl (by decide) ?_
    refine aw_ialdE rfl mg_157 rfl (by omega) (by decide) n7 ?_
    refine aw_c (v := nI 1) rfl (by decide) ?_
    refine aw_ieq rfl (fun c => absurd c (by decide)) (fun _ => ?_)
    refine aw rfl rfl ?_
    refine aw rfl rfl ?_
    refine aw_cv (d1 := 1) (L1 := 23) rfl rfl mg_121 rfl rfl (by decide) (by decide) (Nat.le_of_ble_eq_true rfl) (c_X11_stateNow hM0 hG0 hN0 hS0 (fun z => absurd z e6) (fun z => ?_))
    refine aw_cv (d1 := 2) (L1 := 43) rfl rfl mg_121 rfl rfl (by decide) (by decide) (Nat.le_of_ble_eq_true rfl) (c_X11_isHome m1 m0 (by omega) (by omega) (fun _ y => ?_) (fun y => ?_) (by omega))
    · refine aw_eq rfl (fun c => absurd c (by decide)) (fun _ => ?_)
      refine aw_c (v := nI 1) rfl (by decide) ?_
      refine aw rfl rfl ?_
      exact aw_iret rfl rfl (q1 (by rcases s6 with z | z | z; omega; omega; exact absurd (esq.symm.trans y) (of_decide_eq_false z.1)))
    · refine aw_eq rfl (fun _ => ?_) (fun c => absurd (by decide) c)
      refine aw_c (v := nI 0) rfl (by decide) ?_
      exact aw_iret rfl rfl (q0 (by rcases s6 with z | z | z; omega; exact absurd (esq.trans (of_decide_eq_true z.1)) (y hl96); exact z.2))
def a_now (T : Sd) (S : Nat → Nat) (x : Int32) : Int32 := if x = nI 0 then (if S 6 = 2 then -2 else nI (S 0 % 8)) else if x = nI 1 then (if S 6 = 2 then -2 else nI (S 0 / 8)) else if x = nI 2 then nI (S 1) else if x = nI 3 then nI (S 2) else if x = nI 4 then nI (S 4) else if x = nI 5 then nI (S 4 * T.1 5) else if x = nI 6 then nI (S 5) else if x = nI 7 then nI (S 6) else if x = nI 8 then nI (S 3) else -1
theorem x_out {x : Int32} {n : Nat} (hn : n < 2147483648) (h : ∀ j, j ≤ n → ¬ x = nI j) : x.toInt < 0 ∨ (n : Int) < x.toInt := by
  rcases Int.lt_or_le x.toInt 0 with g | g
  · exact Or.inl g
  · right
    rcases Int.lt_or_le (n : Int) x.toInt with g2 | g2
    · exact g2
    · exfalso
      have h1 : x.toInt.toNat ≤ n := by omega
      refine h _ h1 (Int32.toInt_inj.mp ?_)
      rw [nI_toInt (by omega)]
      omega
theorem c_X11_now {Q : Option Value → am_H → Prop} (hM : MR k lv T W) (hG : GS T) (hN : NR T (k.2.1 53) S) (hS : SG T S) {x : Int32} (q : Q (some (.int (a_now T S x))) (mh g k v pl br lo c ct pr pt cm bf bt)) : AC am_P 3 64 220 [.ref 121, .int x] (mh g k v pl br lo c ct pr pt cm bf bt) Q := by
  refine AC.of (ls := [_, _]) rfl ?_
  unfold a_now at q
  have hM0 := hM
  have hG0 := hG
  obtain ⟨m0, m1, mr, mw, mf, mk, mli, mt, ms, msq, moc, mwy, msp, mlw⟩ := hM
  obtain ⟨⟨g0, g0x⟩, ⟨g1, g1x⟩, ⟨g2, g2x⟩, ⟨g3, g3x⟩, g4, ⟨g5, g5x⟩, g6, gsq, goc, gwt, gsp, gfr⟩ := hG
  have hN0 := hN
  have hS0 := hS
  obtain ⟨n0, n1, n2, n3, n4, n5, n6, n7, n8⟩ := hN
  obtain ⟨s0, s1, s2, s3, s4, s5, s6⟩ := hS
  have hl96 := s0.1
  have esq : k.2.1 24 (32 * lv + 8 * ((S 0 * 3 + S 1) / 3 / 8) + (S 0 * 3 + S 1) / 3 % 8) = T.2 0 ((S 0 * 3 + S 1) / 3) := by rw [msq _ _ s0.2.1 s0.2.2.1, show (S 0 * 3 + S 1) / 3 / 8 * 8 + (S 0 * 3 + S 1) / 3 % 8 = (S 0 * 3 + S 1) / 3 by omega]
  by_cases e0 : x = nI 0
  · subst e0
    rw [if_pos rfl] at q
    by_cases e6 : S 6 = 2
    · rw [if_pos e6] at n7 q
      refine aw rfl rfl ?_
      refine aw_ts (z := 0) (tgt := 52) rfl (by decide) (by decide) ?_
      refine aw rfl rfl ?_
      refine aw_getf rfl mg_121 rfl ?_
      refine aw_c (v := nI 7) rfl (by decide) ?_
      refine aw_ialdE rfl mg_157 rfl (by omega) (by decide) n7 ?_
      refine aw_c (v := nI 1) rfl (by decide) ?_
      refine aw_ine rfl (fun c => absurd (by decide) c) (fun _ => ?_)
      refine aw_c (v := -2) rfl (by decide) ?_
      refine aw rfl rfl ?_
      exact aw_iret rfl rfl q
    · rw [if_neg e6] at n7 q
      refine aw rfl rfl ?_
      refine aw_ts (z := 0) (tgt := 52) rfl (by decide) (by decide) ?_
      refine aw rfl rfl ?_
      refine aw_getf rfl mg_121 rfl ?_
      refine aw_c (v := nI 7) rfl (by decide) ?_
      refine aw_ialdE rfl mg_157 rfl (by omega) (by decide) n7 ?_
      refine aw_c (v := nI 1) rfl (by decide) ?_
      refine aw_ine rfl (fun _ => ?_) (fun c => absurd c (by decide))
      refine aw rfl rfl ?_
      refine aw_getf rfl mg_121 rfl ?_
      refine aw rfl rfl ?_
      refine aw_ialdE rfl mg_157 rfl (by omega) (by decide) n0 ?_
      exact aw_iret rfl rfl q
  rw [if_neg e0] at q
  by_cases e1 : x = nI 1
  · subst e1
    rw [if_pos rfl] at q
    by_cases e6 : S 6 = 2
    · rw [if_pos e6] at n7 q
      refine aw rfl rfl ?_
      refine aw_ts (z := 1) (tgt := 52) rfl (by decide) (by decide) ?_
      refine aw rfl rfl ?_
      refine aw_getf rfl mg_121 rfl ?_
      refine aw_c (v := nI 7) rfl (by decide) ?_
      refine aw_ialdE rfl mg_157 rfl (by omega) (by decide) n7 ?_
      refine aw_c (v := nI 1) rfl (by decide) ?_
      refine aw_ine rfl (fun c => absurd (by decide) c) (fun _ => ?_)
      refine aw_c (v := -2) rfl (by decide) ?_
      refine aw rfl rfl ?_
      exact aw_iret rfl rfl q
    · rw [if_neg e6] at n7 q
      refine aw rfl rfl ?_
      refine aw_ts (z := 1) (tgt := 52) rfl (by decide) (by decide) ?_
      refine aw rfl rfl ?_
      refine aw_getf rfl mg_121 rfl ?_
      refine aw_c (v := nI 7) rfl (by decide) ?_
      refine aw_ialdE rfl mg_157 rfl (by omega) (by decide) n7 ?_
      refine aw_c (v := nI 1) rfl (by decide) ?_
      refine aw_ine rfl (fun _ => ?_) (fun c => absurd c (by decide))
      refine aw rfl rfl ?_
      refine aw_getf rfl mg_121 rfl ?_
      refine aw rfl rfl ?_
      refine aw_ialdE rfl mg_157 rfl (by omega) (by decide) n1 ?_
      exact aw_iret rfl rfl q
  rw [if_neg e1] at q
  by_cases e2 : x = nI 2
  · subst e2
    rw [if_pos rfl] at q
    refine aw rfl rfl ?_
    refine aw_ts (z := 2) (tgt := 75) rfl (by decide) (by decide) ?_
    refine aw rfl rfl ?_
    refine aw_getf rfl mg_121 rfl ?_
    refine aw rfl rfl ?_
    refine aw_ialdE rfl mg_157 rfl (by omega) (by decide) n2 ?_
    exact aw_iret rfl rfl q
  rw [if_neg e2] at q
  by_cases e3 : x = nI 3
  · subst e3
    rw [if_pos rfl] at q
    refine aw rfl rfl ?_
    refine aw_ts (z := 3) (tgt := 75) rfl (by decide) (by decide) ?_
    refine aw rfl rfl ?_
    refine aw_getf rfl mg_121 rfl ?_
    refine aw rfl rfl ?_
    refine aw_ialdE rfl mg_157 rfl (by omega) (by decide) n3 ?_
    exact aw_iret rfl rfl q
  rw [if_neg e3] at q
  by_cases e4 : x = nI 4
  · subst e4
    rw [if_pos rfl] at q
    refine aw rfl rfl ?_
    refine aw_ts (z := 4) (tgt := 75) rfl (by decide) (by decide) ?_
    refine aw rfl rfl ?_
    refine aw_getf rfl mg_121 rfl ?_
    refine aw rfl rfl ?_
    refine aw_ialdE rfl mg_157 rfl (by omega) (by decide) n4 ?_
    exact aw_iret rfl rfl q
  rw [if_neg e4] at q
  by_cases e5 : x = nI 5
  · subst e5
    rw [if_pos rfl] at q
    refine aw rfl rfl ?_
    refine aw_ts (z := 5) (tgt := 75) rfl (by decide) (by decide) ?_
    refine aw rfl rfl ?_
    refine aw_getf rfl mg_121 rfl ?_
    refine aw rfl rfl ?_
    refine aw_ialdE rfl mg_157 rfl (by omega) (by decide) n5 ?_
    exact aw_iret rfl rfl q
  rw [if_neg e5] at q
  by_cases e6 : x = nI 6
  · subst e6
    rw [if_pos rfl] at q
    refine aw rfl rfl ?_
    refine aw_ts (z := 6) (tgt := 75) rfl (by decide) (by decide) ?_
    refine aw rfl rfl ?_
    refine aw_getf rfl mg_121 rfl ?_
    refine aw rfl rfl ?_
    refine aw_ialdE rfl mg_157 rfl (by omega) (by decide) n6 ?_
    exact aw_iret rfl rfl q
  rw [if_neg e6] at q
  by_cases e7 : x = nI 7
  · subst e7
    rw [if_pos rfl] at q
    by_cases e6 : S 6 = 2
    · rw [if_pos e6] at n7
      refine aw rfl rfl ?_
      refine aw_ts (z := 7) (tgt := 82) rfl (by decide) (by decide) ?_
      refine aw rfl rfl ?_
      refine aw_getf rfl mg_121 rfl ?_
      refine aw_c (v := nI 7) rfl (by decide) ?_
      refine aw_ialdE rfl mg_157 rfl (by omega) (by decide) n7 ?_
      refine aw_c (v := nI 1) rfl (by decide) ?_
      refine aw_ine rfl (fun c => absurd (by decide) c) (fun _ => ?_)
      refine aw_c (v := nI 2) rfl (by decide) ?_
      refine aw rfl rfl ?_
      exact aw_iret rfl rfl (by rw [e6] at q; exact q)
    · rw [if_neg e6] at n7
      refine aw rfl rfl ?_
      refine aw_ts (z := 7) (tgt := 82) rfl (by decide) (by decide) ?_
      refine aw rfl rfl ?_
      refine aw_getf rfl mg_121 rfl ?_
      refine aw_c (v := nI 7) rfl (by decide) ?_
      refine aw_ialdE rfl mg_157 rfl (by omega) (by decide) n7 ?_
      refine aw_c (v := nI 1) rfl (by decide) ?_
      refine aw_ine rfl (fun _ => ?_) (fun c => absurd c (by decide))
      refine aw rfl rfl ?_
      refine aw rfl rfl ?_
      refine aw_cv (d1 := 1) (L1 := 23) rfl rfl mg_121 rfl rfl (by decide) (by decide) (Nat.le_of_ble_eq_true rfl) (c_X11_stateNow hM0 hG0 hN0 hS0 (fun z => absurd z e6) (fun z => ?_))
      refine aw_cv (d1 := 2) (L1 := 43) rfl rfl mg_121 rfl rfl (by decide) (by decide) (Nat.le_of_ble_eq_true rfl) (c_X11_isHome m1 m0 (by omega) (by omega) (fun _ y => ?_) (fun y => ?_) (by omega))
      · refine aw_eq rfl (fun c => absurd c (by decide)) (fun _ => ?_)
        refine aw_c (v := nI 1) rfl (by decide) ?_
        refine aw rfl rfl ?_
        exact aw_iret rfl rfl (by rcases s6 with z | z | z; omega; rw [z.2] at q; exact q; exact absurd (esq.symm.trans y) (of_decide_eq_false z.1))
      · refine aw_eq rfl (fun _ => ?_) (fun c => absurd (by decide) c)
        refine aw_c (v := nI 0) rfl (by decide) ?_
        exact aw_iret rfl rfl (by rcases s6 with z | z | z; omega; exact absurd (esq.trans (of_decide_eq_true z.1)) (y hl96); rw [z.2] at q; exact q)
  rw [if_neg e7] at q
  by_cases e8 : x = nI 8
  · subst e8
    rw [if_pos rfl] at q
    refine aw rfl rfl ?_
    refine aw_ts (z := 8) (tgt := 75) rfl (by decide) (by decide) ?_
    refine aw rfl rfl ?_
    refine aw_getf rfl mg_121 rfl ?_
    refine aw rfl rfl ?_
    refine aw_ialdE rfl mg_157 rfl (by omega) (by decide) n8 ?_
    exact aw_iret rfl rfl q
  rw [if_neg e8] at q
  have hx : x.toInt < 0 ∨ (8 : Int) < x.toInt := x_out (n := 8) (by decide) (fun j hj => by
    match j, hj with
    | 0, _ => exact e0
    | 1, _ => exact e1
    | 2, _ => exact e2
    | 3, _ => exact e3
    | 4, _ => exact e4
    | 5, _ => exact e5
    | 6, _ => exact e6
    | 7, _ => exact e7
    | 8, _ => exact e8)
  refine aw rfl rfl ?_
  refine aw_ts (tgt := 114) rfl rfl (am_tg_out hx) ?_
  refine aw_c (v := -1) rfl (by decide) ?_
  exact aw_iret rfl rfl q
def pl_in (T : Sd) (x y : Int32) (f : Nat → Nat → Int32) : Int32 := if (nI 0 ≤ x ∧ x < nI (T.1 0)) ∧ nI 0 ≤ y ∧ y < nI (T.1 1) then f x.toNatClampNeg y.toNatClampNeg else -1
theorem pl_yes {T : Sd} {a e : Nat} {f : Nat → Nat → Int32} (h0 : T.1 0 ≤ 8) (h1 : T.1 1 ≤ 4) (ha : a < T.1 0) (he : e < T.1 1) : pl_in T (nI a) (nI e) f = f a e := by
  unfold pl_in
  rw [if_pos ⟨⟨nI_le (Nat.zero_le _) (by omega), nI_lt ha (by omega)⟩, nI_le (Nat.zero_le _) (by omega), nI_lt he (by omega)⟩, nI_clamp (by omega), nI_clamp (by omega)]
theorem pl_no {T : Sd} {x y : Int32} {f : Nat → Nat → Int32} (h : x < 0 ∨ nI (T.1 0) ≤ x ∨ y < 0 ∨ nI (T.1 1) ≤ y) : pl_in T x y f = -1 := by
  unfold pl_in
  rw [if_neg]
  rintro ⟨⟨h1, h2⟩, h3, h4⟩
  rcases h with z | z | z | z
  · exact absurd z (Int32.not_lt.mpr h1)
  · exact absurd h2 (Int32.not_lt.mpr z)
  · exact absurd z (Int32.not_lt.mpr h3)
  · exact absurd h4 (Int32.not_lt.mpr z)
def a_cars (T : Sd) (LW : LWt) (x y z : Int32) : Int32 := pl_in T x y fun a e => sp z 0 9999 fun t => if n_car T LW (e * 8 + a) (nI t) then nI 1 else nI 0
theorem c_X11_square {Q : Option Value → am_H → Prop} (hM : MR k lv T W) (hG : GS T) {x y : Int32} (q : Q (some (.int (pl_in T x y fun a e => T.2 0 (e * 8 + a)))) (mh g k v pl br lo c ct pr pt cm bf bt)) : AC am_P 2 44 228 [.ref 121, .int x, .int y] (mh g k v pl br lo c ct pr pt cm bf bt) Q := by
  refine AC.of (ls := [_, _, _]) rfl ?_
  have hM0 := hM
  have hG0 := hG
  obtain ⟨m0, m1, mr, mw, mf, mk, mli, mt, ms, msq, moc, mwy, msp, mlw⟩ := hM
  obtain ⟨⟨g0, g0x⟩, ⟨g1, g1x⟩, ⟨g2, g2x⟩, ⟨g3, g3x⟩, g4, ⟨g5, g5x⟩, g6, gsq, goc, gwt, gsp, gfr⟩ := hG
  refine aw rfl rfl ?_
  refine aw rfl rfl ?_
  refine aw rfl rfl ?_
  refine aw_cv (d1 := 1) (L1 := 22) rfl rfl mg_121 rfl rfl (by decide) (by decide) (Nat.le_of_ble_eq_true rfl) (c_X11_isPlace hM0 hG0 (fun a e ea ee ha he => ?_) (fun z => ?_))
  · refine aw_eq rfl (fun c => absurd c (by decide)) (fun _ => ?_)
    subst ea ee
    refine aw rfl rfl ?_
    refine aw rfl rfl ?_
    refine aw rfl rfl ?_
    refine aw_cv (d1 := 0) (L1 := 0) rfl rfl mg_121 rfl rfl (by decide) (by decide) (Nat.le_of_ble_eq_true rfl) (c_sa hM0 hG0 ha he ?_)
    refine aw rfl rfl ?_
    exact aw_iret rfl rfl (by rw [pl_yes g0x g1x ha he] at q; exact q)
  · refine aw_eq rfl (fun _ => ?_) (fun c => absurd (by decide) c)
    refine aw_c (v := -1) rfl (by decide) ?_
    exact aw_iret rfl rfl (by rw [pl_no z] at q; exact q)
theorem c_X11_cars {Q : Option Value → am_H → Prop} (hM : MR k lv T W) (hG : GS T) {x y z : Int32} (q : ∀ v pl br, Q (some (.int (a_cars T (lwf W) x y z))) (mh g k v pl br lo c ct pr pt cm bf bt)) : AC am_P 3 75 231 [.ref 121, .int x, .int y, .int z] (mh g k v pl br lo c ct pr pt cm bf bt) Q := by
  refine AC.of (ls := [_, _, _, _]) rfl ?_
  have hM0 := hM
  have hG0 := hG
  obtain ⟨m0, m1, mr, mw, mf, mk, mli, mt, ms, msq, moc, mwy, msp, mlw⟩ := hM
  obtain ⟨⟨g0, g0x⟩, ⟨g1, g1x⟩, ⟨g2, g2x⟩, ⟨g3, g3x⟩, g4, ⟨g5, g5x⟩, g6, gsq, goc, gwt, gsp, gfr⟩ := hG
  unfold a_cars at q
  refine aw rfl rfl ?_
  refine aw rfl rfl ?_
  refine aw rfl rfl ?_
  refine aw_cv (d1 := 1) (L1 := 22) rfl rfl mg_121 rfl rfl (by decide) (by decide) (Nat.le_of_ble_eq_true rfl) (c_X11_isPlace hM0 hG0 (fun a e ea ee ha he => ?_) (fun z => ?_))
  · refine aw_eq rfl (fun c => absurd c (by decide)) (fun _ => ?_)
    subst ea ee
    rw [pl_yes g0x g1x ha he] at q
    refine aw rfl rfl ?_
    refine aw_c (v := nI 0) rfl (by decide) ?_
    refine aw_c (v := nI 9999) rfl (by decide) ?_
    refine aw_cs (d1 := 0) (L1 := 0) rfl rfl (by decide) (by decide) (Nat.le_of_ble_eq_true rfl) (c_X11_in (fun p1 p2 => ?_) (fun p => ?_))
    · refine aw_ne rfl (fun _ => ?_) (fun c => absurd c (by decide))
      obtain ⟨t, rfl, _, ht⟩ := n_of3 p1 p2 (by decide) (by decide)
      rw [sp_in (Nat.zero_le _) ht (by decide)] at q
      refine aw rfl rfl ?_
      refine aw rfl rfl ?_
      refine aw rfl rfl ?_
      refine aw rfl rfl ?_
      refine aw_cv (d1 := 2) (L1 := 52) rfl rfl mg_121 rfl rfl (by decide) (by decide) (Nat.le_of_ble_eq_true rfl) (c_X11_isBarred hM0 hG0 ha he (fun y v pl br => ?_) (fun y v pl br => ?_))
      · refine aw_eq rfl (fun c => absurd c (by decide)) (fun _ => ?_)
        refine aw_c (v := nI 1) rfl (by decide) ?_
        refine aw rfl rfl ?_
        exact aw_iret rfl rfl (by rw [if_pos y] at q; exact q _ _ _)
      · refine aw_eq rfl (fun _ => ?_) (fun c => absurd (by decide) c)
        refine aw_c (v := nI 0) rfl (by decide) ?_
        exact aw_iret rfl rfl (by rw [if_neg y] at q; exact q _ _ _)
    · refine aw_ne rfl (fun c => absurd (by decide) c) (fun _ => ?_)
      refine aw_c (v := -1) rfl (by decide) ?_
      exact aw_iret rfl rfl (by rw [sp_out p] at q; exact q _ _ _)
  · refine aw_eq rfl (fun _ => ?_) (fun c => absurd (by decide) c)
    refine aw_c (v := -1) rfl (by decide) ?_
    exact aw_iret rfl rfl (by rw [pl_no z] at q; exact q _ _ _)
end M1
