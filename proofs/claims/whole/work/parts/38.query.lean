/-! ===== the reference: queries over chances ===== -/
def a_home (T : Sd) (LW : LWt) (S : Nat → Nat) (x : Int32) (b : Bool) : Int32 := sp x 0 10 fun n => nI (fr (cN T LW S n) (6 ^ n) b)
def a_sure (T : Sd) (LW : LWt) (S : Nat → Nat) (x : Int32) : Int32 := sp x 0 10 fun n => if cN T LW S n = 6 ^ n then nI 1 else nI 0
/-- the first of the likeliest things to do from there *-/
def bA (T : Sd) (LW : LWt) (S : Nat → Nat) (l n : Nat) : Int32 := bs1 (bs (fun a => va T LW (Fc T LW none (hm T) (n - 1) (S 4 * T.1 5 + T.1 5)) l (S 2) a (nI (S 4 * T.1 5))) (cnB T l) (T.1 3 + 1))
def a_best (T : Sd) (LW : LWt) (S : Nat → Nat) (x : Int32) : Int32 := sp x 1 10 fun n => if S 6 = 0 then bA T LW S (S 0 * 3 + S 1) n else -2
def kin (T : Sd) (x : Int32) (f : Nat → Int32) : Int32 := if nI 0 ≤ x ∧ x < nI (T.1 3) then f x.toNatClampNeg else -1
theorem kin_yes {T : Sd} {j : Nat} {f : Nat → Int32} (h4 : T.1 3 ≤ 4) (hj : j < T.1 3) : kin T (nI j) f = f j := by
  unfold kin
  rw [if_pos ⟨nI_le (Nat.zero_le _) (by omega), nI_lt hj (by omega)⟩, nI_clamp (by omega)]
theorem kin_no {T : Sd} {x : Int32} {f : Nat → Int32} (h : x < 0 ∨ nI (T.1 3) ≤ x) : kin T x f = -1 := by
  unfold kin
  rw [if_neg]
  rintro ⟨h1, h2⟩
  rcases h with z | z
  · exact absurd z (Int32.not_lt.mpr h1)
  · exact absurd h2 (Int32.not_lt.mpr z)
def rN (T : Sd) (LW : LWt) (S : Nat → Nat) (j n : Nat) : Nat := if S 6 = 2 then 0 else Fc T LW (some j) (hm T) n (S 4 * T.1 5) (S 0 * 3 + S 1) (S 2)
def a_rule (T : Sd) (LW : LWt) (S : Nat → Nat) (y x : Int32) (b : Bool) : Int32 := kin T y fun j => sp x 0 10 fun n => nI (fr (rN T LW S j n) (6 ^ n) b)
def fnd (P : Nat → Bool) : Nat → Nat → Int32
  | 0, _ => -2
  | m + 1, i => bif P i then nI i else fnd P m (i + 1)
def a_least (T : Sd) (LW : LWt) (S : Nat → Nat) (x : Int32) : Int32 := sp x 0 100 fun p => fnd (fun n => decide (p * 6 ^ n ≤ 100 * cN T LW S n)) 11 0
def a_plan (T : Sd) (LW : LWt) (S : Nat → Nat) (x y z : Int32) : Int32 := sp x 1 10 fun n => pl_in T y z fun a e => if T.2 0 (e * 8 + a) = nI 6 ∨ T.2 0 (e * 8 + a) = nI 4 ∨ T.2 0 (e * 8 + a) = nI 5 then -2 else bA T LW S ((e * 8 + a) * 3 + S 1) n
theorem n_l100 {c p s : Nat} (hc : c < 100000000) (hp : p ≤ 100) (hs : s < 100000000) : (lg_cmp (lN 100 * (nI c).toInt64) ((nI p).toInt64 * (nI s).toInt64) < 0) ↔ ¬ p * s ≤ 100 * c := by
  rw [nI_l (by omega), nI_l (by omega), nI_l (by omega), lN_mul, lN_mul]
  have h := lg_cmp_ge (lN (100 * c)) (lN (p * s))
  have h1 : p * s ≤ 100 * s := Nat.mul_le_mul_right _ hp
  rw [pk_lLE (by omega) (by omega)] at h
  rw [← h]
  exact ⟨fun z y => absurd z (Int32.not_lt.mpr y), fun z => Int32.not_le.mp z⟩
section M1
variable {g : am_H} {k : Mk} {v pl : Nat → Int32} {br lo : Int32} {c ct pr pt cm bf bt : Nat → Int32}
variable {lv : Nat} {T : Sd} {W : Nat → Lw}
variable {S : Nat → Nat}
theorem c_X11_home {Q : Option Value → am_H → Prop} (hM : MR k lv T W) (hG : GS T) (hN : NR T (k.2.1 53) S) (hS : SG T S) {x : Int32} {b : Bool} (q : ∀ v pl br lo c ct, Q (some (.int (a_home T (lwf W) S x b))) (mh g k v pl br lo c ct pr pt cm bf bt)) : AC am_P 9 229 253 [.ref 121, .int x, .int (bI b)] (mh g k v pl br lo c ct pr pt cm bf bt) Q := by
  refine AC.of (ls := [_, _, _]) rfl ?_
  have hM0 := hM
  have hG0 := hG
  obtain ⟨m0, m1, mr, mw, mf, mk, mli, mt, ms, msq, moc, mwy, msp, mlw⟩ := hM
  obtain ⟨⟨g0, g0x⟩, ⟨g1, g1x⟩, ⟨g2, g2x⟩, ⟨g3, g3x⟩, g4, ⟨g5, g5x⟩, g6, gsq, goc, gwt, gsp, gfr⟩ := hG
  have hN0 := hN
  have hS0 := hS
  obtain ⟨n0, n1, n2, n3, n4, n5, n6, n7, n8⟩ := hN
  obtain ⟨s0, s1, s2, s3, s4, s5, s6⟩ := hS
  have hl96 := s0.1
  unfold a_home at q
  refine aw rfl rfl ?_
  refine aw_cs (d1 := 1) (L1 := 22) rfl rfl (by decide) (by decide) (Nat.le_of_ble_eq_true rfl) (c_X11_isLong (fun n hn e => ?_) (fun p => ?_))
  · refine aw_ne rfl (fun _ => ?_) (fun c => absurd c (by decide))
    subst e
    rw [sp_in (Nat.zero_le _) hn (by decide)] at q
    have h6 := p6_le hn
    have hF : ∀ l w, Fc T (lwf W) none (hm T) n (S 4 * T.1 5) l w ≤ 6 ^ n := Fc_le (r := none) hG0 (fun j z => nomatch z) _ _
    have hFx := hF (S 0 * 3 + S 1) (S 2)
    have h6p := p6_pos n
    refine aw rfl rfl ?_
    refine aw rfl rfl ?_
    refine aw_cv (d1 := 8) (L1 := 208) rfl rfl mg_121 rfl rfl (by decide) (by decide) (Nat.le_of_ble_eq_true rfl) (c_X11_fills hM0 hG0 hn (by have := Nat.mul_le_mul s3 g5x; omega) n5 (fun v pl br lo c ct hc => ?_))
    refine aw rfl rfl ?_
    refine aw_getf rfl mg_121 rfl ?_
    refine aw rfl rfl ?_
    refine aw_cv (d1 := 1) (L1 := 23) rfl rfl mg_121 rfl rfl (by decide) (by decide) (Nat.le_of_ble_eq_true rfl) (c_X11_stateNow hM0 hG0 hN0 hS0 (fun z => ?_) (fun z => ?_))
    · try rw [cN, if_pos z] at q
      try rw [cN, if_neg z] at q
      refine aw_ialdE rfl mg_159 rfl (by omega) (by decide) hc.2 ?_
      refine aw rfl rfl ?_
      refine aw_cs (d1 := 0) (L1 := 0) rfl rfl (by decide) (by decide) (Nat.le_of_ble_eq_true rfl) (c_sixes (by omega) ?_)
      refine aw rfl rfl ?_
      refine aw_cs (d1 := 1) (L1 := 24) rfl rfl (by decide) (by decide) (Nat.le_of_ble_eq_true rfl) (c_X11_lineOf (by omega) h6p (by omega) ?_)
      exact aw_iret rfl rfl (q _ _ _ _ _ _)
    · try rw [cN, if_pos z] at q
      try rw [cN, if_neg z] at q
      refine aw_ialdE rfl mg_159 rfl (by omega) (by decide) (hc.1 _ _ s0 (by omega)) ?_
      refine aw rfl rfl ?_
      refine aw_cs (d1 := 0) (L1 := 0) rfl rfl (by decide) (by decide) (Nat.le_of_ble_eq_true rfl) (c_sixes (by omega) ?_)
      refine aw rfl rfl ?_
      refine aw_cs (d1 := 1) (L1 := 24) rfl rfl (by decide) (by decide) (Nat.le_of_ble_eq_true rfl) (c_X11_lineOf (by omega) h6p (by omega) ?_)
      exact aw_iret rfl rfl (q _ _ _ _ _ _)
  · refine aw_ne rfl (fun c => absurd (by decide) c) (fun _ => ?_)
    refine aw_c (v := -1) rfl (by decide) ?_
    exact aw_iret rfl rfl (by rw [sp_out p] at q; exact q _ _ _ _ _ _)
theorem c_X11_sure {Q : Option Value → am_H → Prop} (hM : MR k lv T W) (hG : GS T) (hN : NR T (k.2.1 53) S) (hS : SG T S) {x : Int32} (q : ∀ v pl br lo c ct, Q (some (.int (a_sure T (lwf W) S x))) (mh g k v pl br lo c ct pr pt cm bf bt)) : AC am_P 9 229 265 [.ref 121, .int x] (mh g k v pl br lo c ct pr pt cm bf bt) Q := by
  refine AC.of (ls := [_, _]) rfl ?_
  have hM0 := hM
  have hG0 := hG
  obtain ⟨m0, m1, mr, mw, mf, mk, mli, mt, ms, msq, moc, mwy, msp, mlw⟩ := hM
  obtain ⟨⟨g0, g0x⟩, ⟨g1, g1x⟩, ⟨g2, g2x⟩, ⟨g3, g3x⟩, g4, ⟨g5, g5x⟩, g6, gsq, goc, gwt, gsp, gfr⟩ := hG
  have hN0 := hN
  have hS0 := hS
  obtain ⟨n0, n1, n2, n3, n4, n5, n6, n7, n8⟩ := hN
  obtain ⟨s0, s1, s2, s3, s4, s5, s6⟩ := hS
  have hl96 := s0.1
  unfold a_sure at q
  refine aw rfl rfl ?_
  refine aw_cs (d1 := 1) (L1 := 22) rfl rfl (by decide) (by decide) (Nat.le_of_ble_eq_true rfl) (c_X11_isLong (fun n hn e => ?_) (fun p => ?_))
  · refine aw_ne rfl (fun _ => ?_) (fun c => absurd c (by decide))
    subst e
    rw [sp_in (Nat.zero_le _) hn (by decide)] at q
    have h6 := p6_le hn
    have hF : ∀ l w, Fc T (lwf W) none (hm T) n (S 4 * T.1 5) l w ≤ 6 ^ n := Fc_le (r := none) hG0 (fun j z => nomatch z) _ _
    have hFx := hF (S 0 * 3 + S 1) (S 2)
    have h6p := p6_pos n
    refine aw rfl rfl ?_
    refine aw rfl rfl ?_
    refine aw_cv (d1 := 8) (L1 := 208) rfl rfl mg_121 rfl rfl (by decide) (by decide) (Nat.le_of_ble_eq_true rfl) (c_X11_fills hM0 hG0 hn (by have := Nat.mul_le_mul s3 g5x; omega) n5 (fun v pl br lo c ct hc => ?_))
    refine aw rfl rfl ?_
    refine aw_getf rfl mg_121 rfl ?_
    refine aw rfl rfl ?_
    refine aw_cv (d1 := 1) (L1 := 23) rfl rfl mg_121 rfl rfl (by decide) (by decide) (Nat.le_of_ble_eq_true rfl) (c_X11_stateNow hM0 hG0 hN0 hS0 (fun z => ?_) (fun z => ?_))
    · try rw [cN, if_pos z] at q
      try rw [cN, if_neg z] at q
      refine aw_ialdE rfl mg_159 rfl (by omega) (by decide) hc.2 ?_
      refine aw rfl rfl ?_
      refine aw_cs (d1 := 0) (L1 := 0) rfl rfl (by decide) (by decide) (Nat.le_of_ble_eq_true rfl) (c_sixes (by omega) ?_)
      refine aw_inen rfl (fun c27 => ?_) (fun c27 => ?_)
      · refine aw_c (v := nI 0) rfl (by decide) ?_
        exact aw_iret rfl rfl (by rw [if_neg c27] at q; exact q _ _ _ _ _ _)
      · refine aw_c (v := nI 1) rfl (by decide) ?_
        refine aw rfl rfl ?_
        exact aw_iret rfl rfl (by rw [if_pos c27] at q; exact q _ _ _ _ _ _)
    · try rw [cN, if_pos z] at q
      try rw [cN, if_neg z] at q
      refine aw_ialdE rfl mg_159 rfl (by omega) (by decide) (hc.1 _ _ s0 (by omega)) ?_
      refine aw rfl rfl ?_
      refine aw_cs (d1 := 0) (L1 := 0) rfl rfl (by decide) (by decide) (Nat.le_of_ble_eq_true rfl) (c_sixes (by omega) ?_)
      refine aw_inen rfl (fun c27 => ?_) (fun c27 => ?_)
      · refine aw_c (v := nI 0) rfl (by decide) ?_
        exact aw_iret rfl rfl (by rw [if_neg c27] at q; exact q _ _ _ _ _ _)
      · refine aw_c (v := nI 1) rfl (by decide) ?_
        refine aw rfl rfl ?_
        exact aw_iret rfl rfl (by rw [if_pos c27] at q; exact q _ _ _ _ _ _)
  · refine aw_ne rfl (fun c => absurd (by decide) c) (fun _ => ?_)
    refine aw_c (v := -1) rfl (by decide) ?_
    exact aw_iret rfl rfl (by rw [sp_out p] at q; exact q _ _ _ _ _ _)
theorem c_X11_best {Q : Option Value → am_H → Prop} (hM : MR k lv T W) (hG : GS T) (hN : NR T (k.2.1 53) S) (hS : SG T S) {x : Int32} (q : ∀ v pl br lo c ct, Q (some (.int (a_best T (lwf W) S x))) (mh g k v pl br lo c ct pr pt cm bf bt)) : AC am_P 8 208 264 [.ref 121, .int x] (mh g k v pl br lo c ct pr pt cm bf bt) Q := by
  refine AC.of (ls := [_, _]) rfl ?_
  have hM0 := hM
  have hG0 := hG
  obtain ⟨m0, m1, mr, mw, mf, mk, mli, mt, ms, msq, moc, mwy, msp, mlw⟩ := hM
  obtain ⟨⟨g0, g0x⟩, ⟨g1, g1x⟩, ⟨g2, g2x⟩, ⟨g3, g3x⟩, g4, ⟨g5, g5x⟩, g6, gsq, goc, gwt, gsp, gfr⟩ := hG
  have hN0 := hN
  have hS0 := hS
  obtain ⟨n0, n1, n2, n3, n4, n5, n6, n7, n8⟩ := hN
  obtain ⟨s0, s1, s2, s3, s4, s5, s6⟩ := hS
  have hl96 := s0.1
  unfold a_best at q
  refine aw rfl rfl ?_
  refine aw_c (v := nI 1) rfl (by decide) ?_
  refine aw_c (v := nI 10) rfl (by decide) ?_
  refine aw_cs (d1 := 0) (L1 := 0) rfl rfl (by decide) (by decide) (Nat.le_of_ble_eq_true rfl) (c_X11_in (fun p1 p2 => ?_) (fun p => ?_))
  · refine aw_ne rfl (fun _ => ?_) (fun c => absurd c (by decide))
    obtain ⟨n, rfl, hn1, hn⟩ := n_of3 p1 p2 (by decide) (by decide)
    rw [sp_in hn1 hn (by decide)] at q
    refine aw rfl rfl ?_
    refine aw_cv (d1 := 3) (L1 := 64) rfl rfl mg_121 rfl rfl (by decide) (by decide) (Nat.le_of_ble_eq_true rfl) (c_X11_isOver hM0 hG0 hN0 hS0 (fun z => ?_) (fun z => ?_))
    · refine aw_eq rfl (fun c => absurd c (by decide)) (fun _ => ?_)
      refine aw_c (v := -2) rfl (by decide) ?_
      exact aw_iret rfl rfl (by rw [if_neg z] at q; exact q _ _ _ _ _ _)
    · refine aw_eq rfl (fun _ => ?_) (fun c => absurd (by decide) c)
      refine aw rfl rfl ?_
      refine aw rfl rfl ?_
      refine aw_c (v := nI 1) rfl (by decide) ?_
      refine aw_c (v := -1) rfl (by decide) ?_
      refine aw rfl rfl ?_
      refine aw_getf rfl mg_121 rfl ?_
      refine aw_c (v := nI 5) rfl (by decide) ?_
      refine aw_ialdE rfl mg_157 rfl (by omega) (by decide) n5 ?_
      refine aw_cv (d1 := 7) (L1 := 183) rfl rfl mg_121 rfl rfl (by decide) (by decide) (Nat.le_of_ble_eq_true rfl) (c_X11_fillsFrom (r := none) (d := 1) hM0 hG0 (fun j z => nomatch z) hn (by omega) (by have := Nat.mul_le_mul s3 g5x; omega) (fun v pl br lo c ct hc => ?_))
      rw [Nat.one_mul] at hc
      have hFB : ∀ l w, Fc T (lwf W) none (hm T) (n - 1) (S 4 * T.1 5 + 1 * T.1 5) l w < 300000000 := fun l w => Nat.lt_of_le_of_lt (Fc_le (r := none) hG0 (fun j z => nomatch z) _ _ l w) (Nat.lt_trans (p6_le (by omega)) (by decide))
      rw [Nat.one_mul] at hFB
      refine aw rfl rfl ?_
      refine aw rfl rfl ?_
      refine aw_cv (d1 := 1) (L1 := 23) rfl rfl mg_121 rfl rfl (by decide) (by decide) (Nat.le_of_ble_eq_true rfl) (c_X11_stateNow hM0 hG0 hN0 hS0 (fun y => absurd y (by omega)) (fun _ => ?_))
      refine aw rfl rfl ?_
      refine aw_getf rfl mg_121 rfl ?_
      refine aw_c (v := nI 5) rfl (by decide) ?_
      refine aw_ialdE rfl mg_157 rfl (by omega) (by decide) n5 ?_
      refine aw_cv (d1 := 5) (L1 := 132) rfl rfl mg_121 rfl rfl (by decide) (by decide) (Nat.le_of_ble_eq_true rfl) (c_X11_bestOf hM0 hG0 hc hFB s0 (by omega) (fun v pl br lo => ?_))
      exact aw_iret rfl rfl (by rw [if_pos z] at q; exact q _ _ _ _ _ _)
  · refine aw_ne rfl (fun c => absurd (by decide) c) (fun _ => ?_)
    refine aw_c (v := -1) rfl (by decide) ?_
    exact aw_iret rfl rfl (by rw [sp_out p] at q; exact q _ _ _ _ _ _)
theorem c_X11_isRule {Q : Option Value → am_H → Prop} (hM : MR k lv T W) (hG : GS T) {x y : Int32} (q1 : ∀ j n : Nat, x = nI j → j < T.1 3 → y = nI n → n ≤ 10 → Q (some (.int (nI 1))) (mh g k v pl br lo c ct pr pt cm bf bt)) (q0 : (∀ f : Nat → Nat → Int32, (kin T x fun j => sp y 0 10 fun n => f j n) = -1) → Q (some (.int (nI 0))) (mh g k v pl br lo c ct pr pt cm bf bt)) : AC am_P 2 42 268 [.ref 121, .int x, .int y] (mh g k v pl br lo c ct pr pt cm bf bt) Q := by
  refine AC.of (ls := [_, _, _]) rfl ?_
  have hM0 := hM
  have hG0 := hG
  obtain ⟨m0, m1, mr, mw, mf, mk, mli, mt, ms, msq, moc, mwy, msp, mlw⟩ := hM
  obtain ⟨⟨g0, g0x⟩, ⟨g1, g1x⟩, ⟨g2, g2x⟩, ⟨g3, g3x⟩, g4, ⟨g5, g5x⟩, g6, gsq, goc, gwt, gsp, gfr⟩ := hG
  refine aw rfl rfl ?_
  refine aw_c (v := nI 0) rfl (by decide) ?_
  refine aw rfl rfl ?_
  refine aw_getf rfl mg_121 rfl ?_
  refine aw rfl rfl ?_
  refine aw_getfE rfl mg_121 rfl (congrArg Value.int m1) ?_
  refine aw_ialdE rfl mg_134 rfl (by omega) (by decide) mk ?_
  refine aw_c (v := nI 1) rfl (by decide) ?_
  refine aw_subn rfl (by omega) ?_
  refine aw_cs (d1 := 0) (L1 := 0) rfl rfl (by decide) (by decide) (Nat.le_of_ble_eq_true rfl) (c_X11_in (fun p1 p2 => ?_) (fun p => ?_))
  · refine aw_eq rfl (fun c => absurd c (by decide)) (fun _ => ?_)
    obtain ⟨j, rfl, _, hj⟩ := n_of3 p1 p2 (by omega) (by decide)
    refine aw rfl rfl ?_
    refine aw_cs (d1 := 1) (L1 := 22) rfl rfl (by decide) (by decide) (Nat.le_of_ble_eq_true rfl) (c_X11_isLong (fun n hn e => ?_) (fun p => ?_))
    · refine aw_eq rfl (fun c => absurd c (by decide)) (fun _ => ?_)
      refine aw_c (v := nI 1) rfl (by decide) ?_
      refine aw rfl rfl ?_
      exact aw_iret rfl rfl (q1 j n rfl (by omega) e hn)
    · refine aw_eq rfl (fun _ => ?_) (fun c => absurd (by decide) c)
      refine aw_c (v := nI 0) rfl (by decide) ?_
      exact aw_iret rfl rfl (q0 (fun f => by rw [kin_yes (by omega) (by omega), sp_out p]))
  · refine aw_eq rfl (fun _ => ?_) (fun c => absurd (by decide) c)
    refine aw_c (v := nI 0) rfl (by decide) ?_
    exact aw_iret rfl rfl (q0 (fun f => kin_no (n_out (by omega) (by omega) p)))
theorem c_X11_rule {Q : Option Value → am_H → Prop} (hM : MR k lv T W) (hG : GS T) (hN : NR T (k.2.1 53) S) (hS : SG T S) {y x : Int32} {b : Bool} (q : ∀ v pl br lo c ct, Q (some (.int (a_rule T (lwf W) S y x b))) (mh g k v pl br lo c ct pr pt cm bf bt)) : AC am_P 8 208 267 [.ref 121, .int y, .int x, .int (bI b)] (mh g k v pl br lo c ct pr pt cm bf bt) Q := by
  refine AC.of (ls := [_, _, _, _]) rfl ?_
  have hM0 := hM
  have hG0 := hG
  obtain ⟨m0, m1, mr, mw, mf, mk, mli, mt, ms, msq, moc, mwy, msp, mlw⟩ := hM
  obtain ⟨⟨g0, g0x⟩, ⟨g1, g1x⟩, ⟨g2, g2x⟩, ⟨g3, g3x⟩, g4, ⟨g5, g5x⟩, g6, gsq, goc, gwt, gsp, gfr⟩ := hG
  have hN0 := hN
  have hS0 := hS
  obtain ⟨n0, n1, n2, n3, n4, n5, n6, n7, n8⟩ := hN
  obtain ⟨s0, s1, s2, s3, s4, s5, s6⟩ := hS
  have hl96 := s0.1
  unfold a_rule at q
  refine aw rfl rfl ?_
  refine aw rfl rfl ?_
  refine aw rfl rfl ?_
  refine aw_cv (d1 := 2) (L1 := 42) rfl rfl mg_121 rfl rfl (by decide) (by decide) (Nat.le_of_ble_eq_true rfl) (c_X11_isRule hM0 hG0 (fun j n ej hj en hn => ?_) (fun p => ?_))
  · refine aw_ne rfl (fun _ => ?_) (fun c => absurd c (by decide))
    subst ej en
    rw [kin_yes g3x hj, sp_in (Nat.zero_le _) hn (by decide)] at q
    have h6 := p6_le hn
    have hr : ∀ i, some j = some i → i < T.1 3 := fun i z => by cases z; exact hj
    have hFx := Fc_le (LW := lwf W) (gl := hm T) hG0 hr n (S 4 * T.1 5) (S 0 * 3 + S 1) (S 2)
    have h6p := p6_pos n
    refine aw rfl rfl ?_
    refine aw rfl rfl ?_
    refine aw_c (v := nI 0) rfl (by decide) ?_
    refine aw rfl rfl ?_
    refine aw rfl rfl ?_
    refine aw_getf rfl mg_121 rfl ?_
    refine aw_c (v := nI 5) rfl (by decide) ?_
    refine aw_ialdE rfl mg_157 rfl (by omega) (by decide) n5 ?_
    refine aw_cv (d1 := 7) (L1 := 183) rfl rfl mg_121 rfl rfl (by decide) (by decide) (Nat.le_of_ble_eq_true rfl) (c_X11_fillsFrom (r := some j) (d := 0) hM0 hG0 hr hn (Nat.zero_le _) (by have := Nat.mul_le_mul s3 g5x; omega) (fun v pl br lo c ct hc => ?_))
    rw [show S 4 * T.1 5 + 0 * T.1 5 = S 4 * T.1 5 by omega, Nat.sub_zero] at hc
    refine aw rfl rfl ?_
    refine aw_getf rfl mg_121 rfl ?_
    refine aw rfl rfl ?_
    refine aw_cv (d1 := 1) (L1 := 23) rfl rfl mg_121 rfl rfl (by decide) (by decide) (Nat.le_of_ble_eq_true rfl) (c_X11_stateNow hM0 hG0 hN0 hS0 (fun z => ?_) (fun z => ?_))
    · try rw [rN, if_pos z] at q
      try rw [rN, if_neg z] at q
      refine aw_ialdE rfl mg_159 rfl (by omega) (by decide) hc.2 ?_
      refine aw rfl rfl ?_
      refine aw_cs (d1 := 0) (L1 := 0) rfl rfl (by decide) (by decide) (Nat.le_of_ble_eq_true rfl) (c_sixes (by omega) ?_)
      refine aw rfl rfl ?_
      refine aw_cs (d1 := 1) (L1 := 24) rfl rfl (by decide) (by decide) (Nat.le_of_ble_eq_true rfl) (c_X11_lineOf (by omega) h6p (by omega) ?_)
      exact aw_iret rfl rfl (q _ _ _ _ _ _)
    · try rw [rN, if_pos z] at q
      try rw [rN, if_neg z] at q
      refine aw_ialdE rfl mg_159 rfl (by omega) (by decide) (hc.1 _ _ s0 (by omega)) ?_
      refine aw rfl rfl ?_
      refine aw_cs (d1 := 0) (L1 := 0) rfl rfl (by decide) (by decide) (Nat.le_of_ble_eq_true rfl) (c_sixes (by omega) ?_)
      refine aw rfl rfl ?_
      refine aw_cs (d1 := 1) (L1 := 24) rfl rfl (by decide) (by decide) (Nat.le_of_ble_eq_true rfl) (c_X11_lineOf (by omega) h6p (by omega) ?_)
      exact aw_iret rfl rfl (q _ _ _ _ _ _)
  · refine aw_ne rfl (fun c => absurd (by decide) c) (fun _ => ?_)
    refine aw_c (v := -1) rfl (by decide) ?_
    exact aw_iret rfl rfl (by rw [p] at q; exact q _ _ _ _ _ _)
theorem c_X11_least {Q : Option Value → am_H → Prop} (hM : MR k lv T W) (hG : GS T) (hN : NR T (k.2.1 53) S) (hS : SG T S) {x : Int32} (q : ∀ v pl br lo c ct, Q (some (.int (a_least T (lwf W) S x))) (mh g k v pl br lo c ct pr pt cm bf bt)) : AC am_P 9 229 266 [.ref 121, .int x] (mh g k v pl br lo c ct pr pt cm bf bt) Q := by
  refine AC.of (ls := [_, _, _, _, _]) rfl ?_
  have hM0 := hM
  have hG0 := hG
  obtain ⟨m0, m1, mr, mw, mf, mk, mli, mt, ms, msq, moc, mwy, msp, mlw⟩ := hM
  obtain ⟨⟨g0, g0x⟩, ⟨g1, g1x⟩, ⟨g2, g2x⟩, ⟨g3, g3x⟩, g4, ⟨g5, g5x⟩, g6, gsq, goc, gwt, gsp, gfr⟩ := hG
  have hN0 := hN
  have hS0 := hS
  obtain ⟨n0, n1, n2, n3, n4, n5, n6, n7, n8⟩ := hN
  obtain ⟨s0, s1, s2, s3, s4, s5, s6⟩ := hS
  have hl96 := s0.1
  unfold a_least at q
  refine aw rfl rfl ?_
  refine aw_c (v := nI 0) rfl (by decide) ?_
  refine aw_c (v := nI 100) rfl (by decide) ?_
  refine aw_cs (d1 := 0) (L1 := 0) rfl rfl (by decide) (by decide) (Nat.le_of_ble_eq_true rfl) (c_X11_in (fun p1 p2 => ?_) (fun p => ?_))
  · refine aw_ne rfl (fun _ => ?_) (fun c => absurd c (by decide))
    obtain ⟨p, rfl, _, hp⟩ := n_of3 p1 p2 (by decide) (by decide)
    rw [sp_in (Nat.zero_le _) hp (by decide)] at q
    refine aw_c (v := nI 0) rfl (by decide) ?_
    refine aw_ist (ls' := [_, _, _, _, _]) rfl rfl ?_
    have key : ∀ m i v pl br lo c ct (l3 l4 : Option Value), i + m = 11 → (∀ v pl br lo c ct, Q (some (.int (fnd (fun n => decide (p * 6 ^ n ≤ 100 * cN T (lwf W) S n)) m i))) (mh g k v pl br lo c ct pr pt cm bf bt)) → AW am_P 9 229 266 14 [some (.ref 121), some (.int (nI p)), some (.int (nI i)), l3, l4] [] (mh g k v pl br lo c ct pr pt cm bf bt) Q := by
      intro m
      induction m with
      | zero =>
        intro i v pl br lo c ct l3 l4 hi q
        refine aw rfl rfl ?_
        refine aw_c (v := nI 10) rfl (by decide) ?_
        refine aw_igtn rfl (fun c17 => ?_) (fun c17 => by omega)
        refine aw_c (v := -2) rfl (by decide) ?_
        exact aw_iret rfl rfl (q _ _ _ _ _ _)
      | succ m ih =>
        intro i v pl br lo c ct l3 l4 hi q
        have hn : i ≤ 10 := by omega
        rw [fnd] at q
        have h6 := p6_le hn
        have hF : ∀ l w, Fc T (lwf W) none (hm T) i (S 4 * T.1 5) l w ≤ 6 ^ i := Fc_le (r := none) hG0 (fun j z => nomatch z) _ _
        have hFx := hF (S 0 * 3 + S 1) (S 2)
        have h6p := p6_pos i
        refine aw rfl rfl ?_
        refine aw_c (v := nI 10) rfl (by decide) ?_
        refine aw_igtn rfl (fun c17 => by omega) (fun c17 => ?_)
        refine aw rfl rfl ?_
        refine aw rfl rfl ?_
        refine aw_cv (d1 := 8) (L1 := 208) rfl rfl mg_121 rfl rfl (by decide) (by decide) (Nat.le_of_ble_eq_true rfl) (c_X11_fills hM0 hG0 hn (by have := Nat.mul_le_mul s3 g5x; omega) n5 (fun v pl br lo c ct hc => ?_))
        refine aw rfl rfl ?_
        refine aw rfl rfl ?_
        refine aw_getf rfl mg_121 rfl ?_
        refine aw rfl rfl ?_
        refine aw_cv (d1 := 1) (L1 := 23) rfl rfl mg_121 rfl rfl (by decide) (by decide) (Nat.le_of_ble_eq_true rfl) (c_X11_stateNow hM0 hG0 hN0 hS0 (fun z => ?_) (fun z => ?_))
        · try rw [cN, if_pos z] at q
          try rw [cN, if_neg z] at q
          refine aw_ialdE rfl mg_159 rfl (by omega) (by decide) hc.2 ?_
          refine aw rfl rfl ?_
          refine aw rfl rfl ?_
          refine aw_lst (ls' := [_, _, _, _, _]) rfl rfl ?_
          refine aw rfl rfl ?_
          refine aw rfl rfl ?_
          refine aw rfl rfl ?_
          refine aw rfl rfl ?_
          refine aw_cs (d1 := 0) (L1 := 0) rfl rfl (by decide) (by decide) (Nat.le_of_ble_eq_true rfl) (c_sixes (by omega) ?_)
          refine aw rfl rfl ?_
          refine aw rfl rfl ?_
          refine aw rfl rfl ?_
          refine aw_lt rfl (fun c50 => ?_) (fun c50 => ?_)
          · refine aw_incn (c := 1) (ls' := [_, _, _, _, _]) rfl rfl (by decide) rfl ?_
            refine aw rfl rfl ?_
            exact ih (i + 1) _ _ _ _ _ _ _ _ (by omega) (by rw [decide_eq_false ((n_l100 (by omega) hp (by omega)).mp c50)] at q; exact q)
          · refine aw rfl rfl ?_
            exact aw_iret rfl rfl (by rw [decide_eq_true (Decidable.of_not_not (fun y => c50 ((n_l100 (by omega) hp (by omega)).mpr y)))] at q; exact q _ _ _ _ _ _)
        · try rw [cN, if_pos z] at q
          try rw [cN, if_neg z] at q
          refine aw_ialdE rfl mg_159 rfl (by omega) (by decide) (hc.1 _ _ s0 (by omega)) ?_
          refine aw rfl rfl ?_
          refine aw rfl rfl ?_
          refine aw_lst (ls' := [_, _, _, _, _]) rfl rfl ?_
          refine aw rfl rfl ?_
          refine aw rfl rfl ?_
          refine aw rfl rfl ?_
          refine aw rfl rfl ?_
          refine aw_cs (d1 := 0) (L1 := 0) rfl rfl (by decide) (by decide) (Nat.le_of_ble_eq_true rfl) (c_sixes (by omega) ?_)
          refine aw rfl rfl ?_
          refine aw rfl rfl ?_
          refine aw rfl rfl ?_
          refine aw_lt rfl (fun c50 => ?_) (fun c50 => ?_)
          · refine aw_incn (c := 1) (ls' := [_, _, _, _, _]) rfl rfl (by decide) rfl ?_
            refine aw rfl rfl ?_
            exact ih (i + 1) _ _ _ _ _ _ _ _ (by omega) (by rw [decide_eq_false ((n_l100 (by omega) hp (by omega)).mp c50)] at q; exact q)
          · refine aw rfl rfl ?_
            exact aw_iret rfl rfl (by rw [decide_eq_true (Decidable.of_not_not (fun y => c50 ((n_l100 (by omega) hp (by omega)).mpr y)))] at q; exact q _ _ _ _ _ _)
    exact key 11 0 v pl br lo c ct _ _ rfl q
  · refine aw_ne rfl (fun c => absurd (by decide) c) (fun _ => ?_)
    refine aw_c (v := -1) rfl (by decide) ?_
    exact aw_iret rfl rfl (by rw [sp_out p] at q; exact q _ _ _ _ _ _)
def cb (cn : Nat → Bool) : Nat → Int32
  | 0 => nI 0
  | n + 1 => bif cn n then cb cn n ||| (nI 1 <<< (nI n &&& 31)) else cb cn n
def a_can (T : Sd) (S : Nat → Nat) : Int32 := if S 6 = 0 then cb (mck T (S 0 * 3 + S 1)) (T.1 3) else nI 0
theorem c_X11_can {Q : Option Value → am_H → Prop} (hM : MR k lv T W) (hG : GS T) (hN : NR T (k.2.1 53) S) (hS : SG T S) (q : Q (some (.int (a_can T S))) (mh g k v pl br lo c ct pr pt cm bf bt)) : AC am_P 4 84 252 [.ref 121] (mh g k v pl br lo c ct pr pt cm bf bt) Q := by
  refine AC.of (ls := [_, _, _]) rfl ?_
  unfold a_can at q
  have hM0 := hM
  have hG0 := hG
  obtain ⟨m0, m1, mr, mw, mf, mk, mli, mt, ms, msq, moc, mwy, msp, mlw⟩ := hM
  obtain ⟨⟨g0, g0x⟩, ⟨g1, g1x⟩, ⟨g2, g2x⟩, ⟨g3, g3x⟩, g4, ⟨g5, g5x⟩, g6, gsq, goc, gwt, gsp, gfr⟩ := hG
  have hN0 := hN
  have hS0 := hS
  obtain ⟨n0, n1, n2, n3, n4, n5, n6, n7, n8⟩ := hN
  obtain ⟨s0, s1, s2, s3, s4, s5, s6⟩ := hS
  have hl96 := s0.1
  by_cases e6 : S 6 = 0
  · rw [if_pos e6] at q
    refine aw_c (v := nI 0) rfl (by decide) ?_
    refine aw_ist (ls' := [_, _, _]) rfl rfl ?_
    refine aw_c (v := nI 0) rfl (by decide) ?_
    refine aw_ist (ls' := [_, _, _]) rfl rfl ?_
    refine aw_loop (α := Unit) (ll := fun i _ => [some (.ref 121), some (.int (cb (mck T (S 0 * 3 + S 1)) i)), some (.int (nI i))]) (hh := fun _ _ => (mh g k v pl br lo c ct pr pt cm bf bt)) (I := fun _ _ => True) (N := T.1 3) (fun i y hi _ ih => ?_) (fun y _ => ?_) 0 () (Nat.zero_le _) trivial
    · skip
      refine aw rfl rfl ?_
      refine aw rfl rfl ?_
      refine aw_getf rfl mg_121 rfl ?_
      refine aw rfl rfl ?_
      refine aw_getfE rfl mg_121 rfl (congrArg Value.int m1) ?_
      refine aw_ialdE rfl mg_134 rfl (by omega) (by decide) mk ?_
      refine aw_igen rfl (fun c14 => by omega) (fun c14 => ?_)
      refine aw rfl rfl ?_
      refine aw_cv (d1 := 3) (L1 := 64) rfl rfl mg_121 rfl rfl (by decide) (by decide) (Nat.le_of_ble_eq_true rfl) (c_X11_isOver hM0 hG0 hN0 hS0 (fun z => absurd e6 z) (fun _ => ?_))
      · refine aw_ne rfl (fun c => absurd (by decide) c) (fun _ => ?_)
        refine aw rfl rfl ?_
        refine aw rfl rfl ?_
        refine aw_cv (d1 := 1) (L1 := 23) rfl rfl mg_121 rfl rfl (by decide) (by decide) (Nat.le_of_ble_eq_true rfl) (c_X11_stateNow hM0 hG0 hN0 hS0 (fun y => absurd y (by omega)) (fun _ => ?_))
        refine aw rfl rfl ?_
        refine aw_cv (d1 := 2) (L1 := 43) rfl rfl mg_121 rfl rfl (by decide) (by decide) (Nat.le_of_ble_eq_true rfl) (c_X11_canKick hM0 hG0 s0 (by omega) hi (fun z => ?_) (fun z => ?_))
        · refine aw_eq rfl (fun c => absurd c (by decide)) (fun _ => ?_)
          refine aw rfl rfl ?_
          refine aw_c (v := nI 1) rfl (by decide) ?_
          refine aw rfl rfl ?_
          refine aw rfl rfl ?_
          refine aw rfl rfl ?_
          refine aw_ist (ls' := [_, _, _]) rfl rfl ?_
          refine aw_incn (c := 1) (ls' := [_, _, _]) rfl rfl (by decide) rfl ?_
          refine aw rfl rfl ?_
          have e := mck_iff.mpr z
          have e2 : cb (mck T (S 0 * 3 + S 1)) (i + 1) = cb (mck T (S 0 * 3 + S 1)) i ||| (nI 1 <<< (nI i &&& 31)) := by rw [cb, e]; rfl
          have ih := ih () trivial
          rw [e2] at ih
          exact ih
        · refine aw_eq rfl (fun _ => ?_) (fun c => absurd (by decide) c)
          refine aw_incn (c := 1) (ls' := [_, _, _]) rfl rfl (by decide) rfl ?_
          refine aw rfl rfl ?_
          have e : mck T (S 0 * 3 + S 1) i = false := Bool.eq_false_iff.mpr (fun y => z (mck_iff.mp y))
          have e2 : cb (mck T (S 0 * 3 + S 1)) (i + 1) = cb (mck T (S 0 * 3 + S 1)) i := by rw [cb, e]; rfl
          have ih := ih () trivial
          rw [e2] at ih
          exact ih
    · skip
      refine aw rfl rfl ?_
      refine aw rfl rfl ?_
      refine aw_getf rfl mg_121 rfl ?_
      refine aw rfl rfl ?_
      refine aw_getfE rfl mg_121 rfl (congrArg Value.int m1) ?_
      refine aw_ialdE rfl mg_134 rfl (by omega) (by decide) mk ?_
      refine aw_igen rfl (fun c14 => ?_) (fun c14 => by omega)
      refine aw rfl rfl ?_
      exact aw_iret rfl rfl q
  · rw [if_neg e6] at q
    refine aw_c (v := nI 0) rfl (by decide) ?_
    refine aw_ist (ls' := [_, _, _]) rfl rfl ?_
    refine aw_c (v := nI 0) rfl (by decide) ?_
    refine aw_ist (ls' := [_, _, _]) rfl rfl ?_
    refine aw rfl rfl ?_
    refine aw rfl rfl ?_
    refine aw_getf rfl mg_121 rfl ?_
    refine aw rfl rfl ?_
    refine aw_getfE rfl mg_121 rfl (congrArg Value.int m1) ?_
    refine aw_ialdE rfl mg_134 rfl (by omega) (by decide) mk ?_
    refine aw_igen rfl (fun c14 => by omega) (fun c14 => ?_)
    refine aw rfl rfl ?_
    refine aw_cv (d1 := 3) (L1 := 64) rfl rfl mg_121 rfl rfl (by decide) (by decide) (Nat.le_of_ble_eq_true rfl) (c_X11_isOver hM0 hG0 hN0 hS0 (fun _ => ?_) (fun z => absurd z e6))
    · refine aw_ne rfl (fun _ => ?_) (fun c => absurd c (by decide))
      refine aw rfl rfl ?_
      exact aw_iret rfl rfl q
theorem c_X11_plan {Q : Option Value → am_H → Prop} (hM : MR k lv T W) (hG : GS T) (hN : NR T (k.2.1 53) S) (hS : SG T S) {x y z : Int32} (q : ∀ v pl br lo c ct, Q (some (.int (a_plan T (lwf W) S x y z))) (mh g k v pl br lo c ct pr pt cm bf bt)) : AC am_P 8 208 276 [.ref 121, .int x, .int y, .int z] (mh g k v pl br lo c ct pr pt cm bf bt) Q := by
  refine AC.of (ls := [_, _, _, _, _]) rfl ?_
  have hM0 := hM
  have hG0 := hG
  obtain ⟨m0, m1, mr, mw, mf, mk, mli, mt, ms, msq, moc, mwy, msp, mlw⟩ := hM
  obtain ⟨⟨g0, g0x⟩, ⟨g1, g1x⟩, ⟨g2, g2x⟩, ⟨g3, g3x⟩, g4, ⟨g5, g5x⟩, g6, gsq, goc, gwt, gsp, gfr⟩ := hG
  have hN0 := hN
  have hS0 := hS
  obtain ⟨n0, n1, n2, n3, n4, n5, n6, n7, n8⟩ := hN
  obtain ⟨s0, s1, s2, s3, s4, s5, s6⟩ := hS
  have hl96 := s0.1
  unfold a_plan at q
  refine aw rfl rfl ?_
  refine aw_c (v := nI 1) rfl (by decide) ?_
  refine aw_c (v := nI 10) rfl (by decide) ?_
  refine aw_cs (d1 := 0) (L1 := 0) rfl rfl (by decide) (by decide) (Nat.le_of_ble_eq_true rfl) (c_X11_in (fun p1 p2 => ?_) (fun p => ?_))
  · refine aw_eq rfl (fun c => absurd c (by decide)) (fun _ => ?_)
    obtain ⟨n, rfl, hn1, hn⟩ := n_of3 p1 p2 (by decide) (by decide)
    rw [sp_in hn1 hn (by decide)] at q
    refine aw rfl rfl ?_
    refine aw rfl rfl ?_
    refine aw rfl rfl ?_
    refine aw_cv (d1 := 1) (L1 := 22) rfl rfl mg_121 rfl rfl (by decide) (by decide) (Nat.le_of_ble_eq_true rfl) (c_X11_isPlace hM0 hG0 (fun a e ea ee ha he => ?_) (fun z => ?_))
    · refine aw_ne rfl (fun _ => ?_) (fun c => absurd c (by decide))
      subst ea ee
      rw [pl_yes g0x g1x ha he] at q
      refine aw rfl rfl ?_
      refine aw rfl rfl ?_
      refine aw rfl rfl ?_
      refine aw_cv (d1 := 0) (L1 := 0) rfl rfl mg_121 rfl rfl (by decide) (by decide) (Nat.le_of_ble_eq_true rfl) (c_sa hM0 hG0 ha he ?_)
      refine aw_ist (ls' := [_, _, _, _, _]) rfl rfl ?_
      refine aw rfl rfl ?_
      refine aw_c (v := nI 6) rfl (by decide) ?_
      refine aw_ieq rfl (fun c33 => ?_) (fun c33 => ?_)
      · refine aw_c (v := -2) rfl (by decide) ?_
        exact aw_iret rfl rfl (by rw [if_pos (Or.inl c33)] at q; exact q _ _ _ _ _ _)
      · refine aw rfl rfl ?_
        refine aw_c (v := nI 4) rfl (by decide) ?_
        refine aw_ieq rfl (fun c39 => ?_) (fun c39 => ?_)
        · refine aw_c (v := -2) rfl (by decide) ?_
          exact aw_iret rfl rfl (by rw [if_pos (Or.inr (Or.inl c39))] at q; exact q _ _ _ _ _ _)
        · refine aw rfl rfl ?_
          refine aw_c (v := nI 5) rfl (by decide) ?_
          refine aw_ine rfl (fun c45 => ?_) (fun c45 => ?_)
          · rw [if_neg (fun y => y.elim c33 (fun y => y.elim c39 c45))] at q
            refine aw rfl rfl ?_
            refine aw rfl rfl ?_
            refine aw_c (v := nI 1) rfl (by decide) ?_
            refine aw_c (v := -1) rfl (by decide) ?_
            refine aw rfl rfl ?_
            refine aw_getf rfl mg_121 rfl ?_
            refine aw_c (v := nI 5) rfl (by decide) ?_
            refine aw_ialdE rfl mg_157 rfl (by omega) (by decide) n5 ?_
            refine aw_cv (d1 := 7) (L1 := 183) rfl rfl mg_121 rfl rfl (by decide) (by decide) (Nat.le_of_ble_eq_true rfl) (c_X11_fillsFrom (r := none) (d := 1) hM0 hG0 (fun j z => nomatch z) hn (by omega) (by have := Nat.mul_le_mul s3 g5x; omega) (fun v pl br lo c ct hc => ?_))
            rw [Nat.one_mul] at hc
            have hFB : ∀ l w, Fc T (lwf W) none (hm T) (n - 1) (S 4 * T.1 5 + 1 * T.1 5) l w < 300000000 := fun l w => Nat.lt_of_le_of_lt (Fc_le (r := none) hG0 (fun j z => nomatch z) _ _ l w) (Nat.lt_trans (p6_le (by omega)) (by decide))
            rw [Nat.one_mul] at hFB
            have h12 : S 1 < T.1 2 := by have := s0.2.2.2.1; omega
            have hlie : lieOK T ((e * 8 + a) * 3 + S 1) := lie_on ha he h12 g0x g1x g2x c39 c45
            refine aw rfl rfl ?_
            refine aw rfl rfl ?_
            refine aw rfl rfl ?_
            refine aw rfl rfl ?_
            refine aw_getf rfl mg_121 rfl ?_
            refine aw_c (v := nI 2) rfl (by decide) ?_
            refine aw_ialdE rfl mg_157 rfl (by omega) (by decide) n2 ?_
            refine aw rfl rfl ?_
            refine aw_getf rfl mg_121 rfl ?_
            refine aw_c (v := nI 3) rfl (by decide) ?_
            refine aw_ialdE rfl mg_157 rfl (by omega) (by decide) n3 ?_
            refine aw_cs (d1 := 0) (L1 := 0) rfl rfl (by decide) (by decide) (Nat.le_of_ble_eq_true rfl) (c_X11_numberOf ?_)
            rw [show ((8 * e + a) * 3 + S 1) * 4 + S 2 = 4 * ((e * 8 + a) * 3 + S 1) + S 2 by omega]
            refine aw rfl rfl ?_
            refine aw_getf rfl mg_121 rfl ?_
            refine aw_c (v := nI 5) rfl (by decide) ?_
            refine aw_ialdE rfl mg_157 rfl (by omega) (by decide) n5 ?_
            refine aw_cv (d1 := 5) (L1 := 132) rfl rfl mg_121 rfl rfl (by decide) (by decide) (Nat.le_of_ble_eq_true rfl) (c_X11_bestOf (l := (e * 8 + a) * 3 + S 1) (w := S 2) hM0 hG0 hc hFB hlie (by omega) (fun v pl br lo => ?_))
            exact aw_iret rfl rfl (q _ _ _ _ _ _)
          · refine aw_c (v := -2) rfl (by decide) ?_
            exact aw_iret rfl rfl (by rw [if_pos (Or.inr (Or.inr c45))] at q; exact q _ _ _ _ _ _)
    · refine aw_ne rfl (fun c => absurd (by decide) c) (fun _ => ?_)
      refine aw_c (v := -1) rfl (by decide) ?_
      exact aw_iret rfl rfl (by rw [pl_no z] at q; exact q _ _ _ _ _ _)
  · refine aw_eq rfl (fun _ => ?_) (fun c => absurd (by decide) c)
    refine aw_c (v := -1) rfl (by decide) ?_
    exact aw_iret rfl rfl (by rw [sp_out p] at q; exact q _ _ _ _ _ _)
end M1
