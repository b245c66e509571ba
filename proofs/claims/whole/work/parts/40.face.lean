/-! ===== the reference: worth, face, side, goBy, trap ===== -/
def a_worth (T : Sd) (LW : LWt) (S : Nat → Nat) (x : Int32) (bl b : Bool) : Int32 := sp x 0 10 fun n => if S 6 = 0 then nI (fr ((bif bl then Fc T LW none (hm T) n (S 4 * T.1 5) (S 0 * 3 + S 1) (S 2 + 1) else tm T (Fc T LW none (hm T) n (S 4 * T.1 5)) (S 0 * 3 + S 1) (S 2) 4) - Fc T LW none (hm T) n (S 4 * T.1 5) (S 0 * 3 + S 1) (S 2)) (6 ^ n) b) else nI (fr 0 1 b)
def tt : Nat → Bool := fun _ => true
def a_face (T : Sd) (LW : LWt) (S : Nat → Nat) (x : Int32) : Int32 := sp x 0 10 fun n => if S 6 = 0 then nI (bsA (bs (fun f => Fc T LW none (hm T) n (S 4 * T.1 5) (S 0 * 3 + f) (S 2)) tt (T.1 2))) else -2
def sdc (T : Sd) (a : Nat) : Nat → Bool := fun e => !(decide (T.2 0 (e * 8 + a) = nI 4)) && !(decide (T.2 0 (e * 8 + a) = nI 5))
def sdf (F : Nat → Nat → Nat) (a f w : Nat) : Nat → Nat := fun e => F ((e * 8 + a) * 3 + f) w
def bs3 : Option (Nat × Nat) → Int32
  | none => -2
  | some p => nI p.1
def a_side (T : Sd) (LW : LWt) (S : Nat → Nat) (x : Int32) : Int32 := sp x 0 10 fun n => if S 6 = 0 then bs3 (bs (sdf (Fc T LW none (hm T) n (S 4 * T.1 5)) (S 0 % 8) (S 1) (S 2)) (sdc T (S 0 % 8)) (T.1 1)) else -2
/-- lives behind so many waits; none: lost -/
def wl1 (b : Bool) : Option Nat → Option Nat
  | none => none
  | some u => bif b then (if u = 0 then none else some (u - 1)) else some u
def wl (T : Sd) (LW : LWt) (l t w : Nat) : Nat → Option Nat
  | 0 => some w
  | i + 1 => wl1 (decide (n_land T LW l 24 (nI (t + i * T.1 5)) = -1)) (wl T LW l t w i)
def wlS (l : Nat) : Option Nat → Nat
  | none => 384
  | some u => 4 * l + u
def wlF (F : Nat → Nat) : Option Nat → Nat
  | none => 0
  | some u => F u
def gbF (T : Sd) (LW : LWt) (n l t w : Nat) : Nat → Nat := fun i => wlF (Fc T LW none (hm T) n (t + i * T.1 5) l) (wl T LW l t w i)
def a_goBy (T : Sd) (LW : LWt) (S : Nat → Nat) (x : Int32) : Int32 := sp x 0 10 fun n => if S 6 = 0 then nI (bsA (bs (gbF T LW n (S 0 * 3 + S 1) (S 4 * T.1 5) (S 2)) tt 6)) else -2
def lkB (T : Sd) (s : Nat) : Bool := decide (s % 8 < T.1 0) && decide (s / 8 < T.1 1) && !(decide (T.2 0 s = nI 4)) && !(decide (T.2 0 s = nI 5))
def allz (f : Nat → Nat) : Nat → Bool
  | 0 => true
  | n + 1 => allz f n && decide (f n = 0)
def ctN (P : Nat → Bool) : Nat → Nat
  | 0 => 0
  | n + 1 => ctN P n + bif P n then 1 else 0
def trp (T : Sd) (F : Nat → Nat → Nat) (w : Nat) : Nat → Bool := fun s => lkB T s && allz (fun f => F (s * 3 + f) w) (T.1 2)
def a_trap (T : Sd) (LW : LWt) (S : Nat → Nat) (x : Int32) : Int32 := sp x 0 10 fun n => nI (ctN (trp T (Fc T LW none (hm T) n (S 4 * T.1 5)) (S 2)) 32)
theorem bs_no {f : Nat → Nat} {cn : Nat → Bool} {i : Nat} (hb : ∀ j, f j < 2147483648) (hc : cn i = true) (h : nI (f i) ≤ bs2 (bs f cn i)) : bs f cn (i + 1) = bs f cn i := by
  cases e : bs f cn i with
  | none => rw [e] at h; exact absurd (Int32.lt_of_lt_of_le (by decide : (-1 : Int32) < nI 0) (nI_le (Nat.zero_le _) (hb i))) (Int32.not_lt.mpr h)
  | some p =>
    have h2 := bs_lt _ _ _ _ e
    rw [e] at h
    have h3 : f i ≤ p.2 := (nI_leI (hb i) (by rw [h2.2.1]; exact hb _)).mp h
    rw [bs_more e, hc, decide_eq_false (by omega)]
    rfl
theorem bs_yes {f : Nat → Nat} {cn : Nat → Bool} {i : Nat} (hb : ∀ j, f j < 2147483648) (hc : cn i = true) (h : ¬ nI (f i) ≤ bs2 (bs f cn i)) : bs f cn (i + 1) = some (i, f i) := by
  cases e : bs f cn i with
  | none => rw [bs_none e, hc]; rfl
  | some p =>
    have h2 := bs_lt _ _ _ _ e
    rw [e] at h
    have h3 : ¬ f i ≤ p.2 := fun z => h ((nI_leI (hb i) (by rw [h2.2.1]; exact hb _)).mpr z)
    rw [bs_more e, hc, decide_eq_true (by omega)]
    rfl
theorem bs_skip {f : Nat → Nat} {cn : Nat → Bool} {i : Nat} (hc : cn i = false) : bs f cn (i + 1) = bs f cn i := by
  cases e : bs f cn i with
  | none => rw [bs_none e, hc]; rfl
  | some p => rw [bs_more e, hc]; rfl
theorem lkB_iff {T : Sd} {s : Nat} (hG : GS T) (hs : s < 32) : lkB T s = true ↔ lieOK T (s * 3) := by
  obtain ⟨⟨g0, g0x⟩, ⟨g1, g1x⟩, ⟨g2, g2x⟩, ⟨g3, g3x⟩, g4, ⟨g5, g5x⟩, g6, gsq, goc, gwt, gsp, gfr⟩ := hG
  unfold lkB lieOK
  rw [show s * 3 / 3 = s by omega, show s * 3 % 3 = 0 by omega]
  simp only [Bool.and_eq_true, decide_eq_true_eq, Bool.not_eq_true', decide_eq_false_iff_not]
  constructor
  · rintro ⟨⟨⟨h1, h2⟩, h3⟩, h4⟩; exact ⟨by omega, h1, h2, by omega, h3, h4⟩
  · rintro ⟨_, h1, h2, _, h3, h4⟩; exact ⟨⟨⟨h1, h2⟩, h3⟩, h4⟩
theorem ctN_z {P : Nat → Bool} {a : Nat} : ∀ d, (∀ i, a ≤ i → i < a + d → P i = false) → ctN P (a + d) = ctN P a := by
  intro d
  induction d with
  | zero => intro _; rfl
  | succ d ih =>
    intro h
    show ctN P (a + d) + (bif P (a + d) then 1 else 0) = _
    rw [h (a + d) (by omega) (by omega), ih (fun i h1 h2 => h i h1 (by omega))]
    rfl
theorem ctN_le {P : Nat → Bool} : ∀ n, ctN P n ≤ n := by
  intro n
  induction n with
  | zero => exact Nat.le_refl _
  | succ n ih => show ctN P n + (bif P n then 1 else 0) ≤ _; cases P n <;> simp <;> omega
theorem trp_out {T : Sd} {F : Nat → Nat → Nat} {w s : Nat} (h : T.1 0 ≤ s % 8 ∨ T.1 1 ≤ s / 8) : trp T F w s = false := by
  unfold trp lkB
  rcases h with h | h
  · rw [decide_eq_false (by omega : ¬ s % 8 < T.1 0)]; rfl
  · rw [decide_eq_false (by omega : ¬ s / 8 < T.1 1), Bool.and_false]; rfl
section M1
variable {g : am_H} {k : Mk} {v pl : Nat → Int32} {br lo : Int32} {c ct pr pt cm bf bt : Nat → Int32}
variable {lv : Nat} {T : Sd} {W : Nat → Lw}
variable {S : Nat → Nat}
theorem c_X11_worth {Q : Option Value → am_H → Prop} (hM : MR k lv T W) (hG : GS T) (hN : NR T (k.2.1 53) S) (hS : SG T S) {x : Int32} {bl b : Bool} (q : ∀ v pl br lo c ct, Q (some (.int (a_worth T (lwf W) S x bl b))) (mh g k v pl br lo c ct pr pt cm bf bt)) : AC am_P 9 229 272 [.ref 121, .int x, .int (bI bl), .int (bI b)] (mh g k v pl br lo c ct pr pt cm bf bt) Q := by
  refine AC.of (ls := [_, _, _, _, _, _, _, _]) rfl ?_
  have hM0 := hM
  have hG0 := hG
  obtain ⟨m0, m1, mr, mw, mf, mk, mli, mt, ms, msq, moc, mwy, msp, mlw⟩ := hM
  obtain ⟨⟨g0, g0x⟩, ⟨g1, g1x⟩, ⟨g2, g2x⟩, ⟨g3, g3x⟩, g4, ⟨g5, g5x⟩, g6, gsq, goc, gwt, gsp, gfr⟩ := hG
  have hN0 := hN
  have hS0 := hS
  obtain ⟨n0, n1, n2, n3, n4, n5, n6, n7, n8⟩ := hN
  obtain ⟨s0, s1, s2, s3, s4, s5, s6⟩ := hS
  have hl96 := s0.1
  unfold a_worth at q
  cases bl
  · skip
    refine aw rfl rfl ?_
    refine aw_cs (d1 := 1) (L1 := 22) rfl rfl (by decide) (by decide) (Nat.le_of_ble_eq_true rfl) (c_X11_isLong (fun n hn e => ?_) (fun p => ?_))
    · refine aw_ne rfl (fun _ => ?_) (fun c => absurd c (by decide))
      subst e
      rw [sp_in (Nat.zero_le _) hn (by decide)] at q
      have h6 := p6_le hn
      have hF : ∀ l w, Fc T (lwf W) none (hm T) n (S 4 * T.1 5) l w ≤ 6 ^ n := Fc_le (r := none) hG0 (fun j z => nomatch z) _ _
      have hFx := hF (S 0 * 3 + S 1) (S 2)
      have h6p := p6_pos n
      refine aw rfl rfl ?_
      refine aw rfl rfl ?_
      refine aw_cv (d1 := 8) (L1 := 208) rfl rfl mg_121 rfl rfl (by decide) (by decide) (Nat.le_of_ble_eq_true rfl) (c_X11_fills hM0 hG0 hn (by have := Nat.mul_le_mul s3 g5x; omega) n5 (fun v pl br lo c ct hc => ?_))
      refine aw rfl rfl ?_
      refine aw_cv (d1 := 3) (L1 := 64) rfl rfl mg_121 rfl rfl (by decide) (by decide) (Nat.le_of_ble_eq_true rfl) (c_X11_isOver hM0 hG0 hN0 hS0 (fun z => ?_) (fun z => ?_))
      · refine aw_eq rfl (fun c => absurd c (by decide)) (fun _ => ?_)
        rw [if_neg z] at q
        refine aw_c (v := nI 0) rfl (by decide) ?_
        refine aw_c (v := nI 1) rfl (by decide) ?_
        refine aw rfl rfl ?_
        refine aw_cs (d1 := 1) (L1 := 24) rfl rfl (by decide) (by decide) (Nat.le_of_ble_eq_true rfl) (c_X11_lineOf (a := 0) (m := 1) (by decide) (by decide) (by decide) ?_)
        exact aw_iret rfl rfl (q _ _ _ _ _ _)
      · refine aw_eq rfl (fun _ => ?_) (fun c => absurd (by decide) c)
        rw [if_pos z] at q
        refine aw rfl rfl ?_
        refine aw_cv (d1 := 1) (L1 := 23) rfl rfl mg_121 rfl rfl (by decide) (by decide) (Nat.le_of_ble_eq_true rfl) (c_X11_stateNow hM0 hG0 hN0 hS0 (fun y => absurd y (by omega)) (fun _ => ?_))
        refine aw_ist (ls' := [_, _, _, _, _, _, _, _]) rfl rfl ?_
        refine aw rfl rfl ?_
        refine aw_eq rfl (fun _ => ?_) (fun c => absurd (by decide) c)
        refine aw rfl rfl ?_
        refine aw_getf rfl mg_121 rfl ?_
        refine aw rfl rfl ?_
        refine aw_ialdE rfl mg_159 rfl (by omega) (by decide) (hc.1 _ _ s0 (by omega)) ?_
        refine aw_ist (ls' := [_, _, _, _, _, _, _, _]) rfl rfl ?_
        refine aw_c (v := nI 0) rfl (by decide) ?_
        refine aw_ist (ls' := [_, _, _, _, _, _, _, _]) rfl rfl ?_
        refine aw_loop (α := Option Value) (ll := fun i y => [some (.ref 121), some (.int (nI n)), some (.int (bI false)), some (.int (bI b)), some (.int (nI (4 * (S 0 * 3 + S 1) + S 2))), some (.int (nI (tm T (Fc T (lwf W) none (hm T) n (S 4 * T.1 5)) (S 0 * 3 + S 1) (S 2) i))), some (.int (nI i)), y]) (hh := fun i y => (mh g k v pl br lo c ct pr pt cm bf bt)) (I := fun i y => True) (N := 4) (fun i y hi hI ih => ?_) (fun y hI => ?_) 0 none (Nat.zero_le _) trivial
        · skip
          have htm := tm_le (T := T) (l := S 0 * 3 + S 1) (w := S 2) hF i
          have htn := tm_le (T := T) (l := S 0 * 3 + S 1) (w := S 2) hF (i + 1)
          refine aw rfl rfl ?_
          refine aw_c (v := nI 4) rfl (by decide) ?_
          refine aw_igen rfl (fun c65 => by omega) (fun c65 => ?_)
          refine aw rfl rfl ?_
          refine aw_ne rfl (fun c => absurd (by decide) c) (fun _ => ?_)
          refine aw rfl rfl ?_
          refine aw rfl rfl ?_
          refine aw rfl rfl ?_
          refine aw_cv (d1 := 2) (L1 := 44) rfl rfl mg_121 rfl rfl (by decide) (by decide) (Nat.le_of_ble_eq_true rfl) (c_X11_touched hM0 hG0 s0 (by omega) (by omega) (fun u hu => ?_) (fun hu => ?_))
          · rw [show (S 0 * 3 + S 1) / 3 = S 0 by omega, show (S 0 * 3 + S 1) % 3 = S 1 by omega] at *
            have hlu : lieOK T (u * 3 + S 1) := tcS_lie hG0 (by have := s0.2.1; omega) (by have := s0.2.2.1; omega) (by have := s0.2.2.2.1; omega) hu
            have hlu96 := hlu.1
            have hFu := hF (u * 3 + S 1) (S 2)
            refine aw_ist (ls' := [_, _, _, _, _, _, _, _]) rfl rfl ?_
            refine aw rfl rfl ?_
            refine aw_ltn rfl ?_
            refine aw rfl rfl ?_
            refine aw_getf rfl mg_121 rfl ?_
            refine aw rfl rfl ?_
            refine aw_ialdE rfl mg_159 rfl (by omega) (by decide) (hc.1 _ _ hlu (by omega)) ?_
            refine aw rfl rfl ?_
            refine aw_ilen rfl (fun c96 => ?_) (fun c96 => ?_)
            · refine aw_incn (c := 1) (ls' := [_, _, _, _, _, _, _, _]) rfl rfl (by decide) rfl ?_
              refine aw rfl rfl ?_
              have e5 : tm T (Fc T (lwf W) none (hm T) n (S 4 * T.1 5)) (S 0 * 3 + S 1) (S 2) (i + 1) = tm T (Fc T (lwf W) none (hm T) n (S 4 * T.1 5)) (S 0 * 3 + S 1) (S 2) i := by rw [tm, show (S 0 * 3 + S 1) / 3 = S 0 by omega, hu]; show (if _ < _ then _ else _) = _; rw [show (S 0 * 3 + S 1) % 3 = S 1 by omega, if_neg (by omega)]
              have ih := ih (some (.int (nI (4 * (u * 3 + S 1) + S 2)))) trivial
              rw [e5] at ih
              exact ih
            · refine aw rfl rfl ?_
              refine aw_getf rfl mg_121 rfl ?_
              refine aw rfl rfl ?_
              refine aw_ialdE rfl mg_159 rfl (by omega) (by decide) (hc.1 _ _ hlu (by omega)) ?_
              refine aw_ist (ls' := [_, _, _, _, _, _, _, _]) rfl rfl ?_
              refine aw_incn (c := 1) (ls' := [_, _, _, _, _, _, _, _]) rfl rfl (by decide) rfl ?_
              refine aw rfl rfl ?_
              have e5 : tm T (Fc T (lwf W) none (hm T) n (S 4 * T.1 5)) (S 0 * 3 + S 1) (S 2) (i + 1) = Fc T (lwf W) none (hm T) n (S 4 * T.1 5) (u * 3 + S 1) (S 2) := by rw [tm, show (S 0 * 3 + S 1) / 3 = S 0 by omega, hu]; show (if _ < _ then _ else _) = _; rw [show (S 0 * 3 + S 1) % 3 = S 1 by omega, if_pos (by omega)]
              have ih := ih (some (.int (nI (4 * (u * 3 + S 1) + S 2)))) trivial
              rw [e5] at ih
              exact ih
          · refine aw_ist (ls' := [_, _, _, _, _, _, _, _]) rfl rfl ?_
            refine aw rfl rfl ?_
            refine aw_lt rfl (fun _ => ?_) (fun c => absurd (by decide) c)
            refine aw_incn (c := 1) (ls' := [_, _, _, _, _, _, _, _]) rfl rfl (by decide) rfl ?_
            refine aw rfl rfl ?_
            have e5 : tm T (Fc T (lwf W) none (hm T) n (S 4 * T.1 5)) (S 0 * 3 + S 1) (S 2) (i + 1) = tm T (Fc T (lwf W) none (hm T) n (S 4 * T.1 5)) (S 0 * 3 + S 1) (S 2) i := by rw [tm, hu]
            have ih := ih (some (.int (-1))) trivial
            rw [e5] at ih
            exact ih
        · skip
          have htm := tm_le (T := T) (l := S 0 * 3 + S 1) (w := S 2) hF 4
          have htg := tm_ge (T := T) (F := Fc T (lwf W) none (hm T) n (S 4 * T.1 5)) (l := S 0 * 3 + S 1) (w := S 2) 4
          refine aw rfl rfl ?_
          refine aw_c (v := nI 4) rfl (by decide) ?_
          refine aw_ige rfl (fun _ => ?_) (fun c => absurd (by decide) c)
          refine aw rfl rfl ?_
          refine aw rfl rfl ?_
          refine aw_getf rfl mg_121 rfl ?_
          refine aw rfl rfl ?_
          refine aw_ialdE rfl mg_159 rfl (by omega) (by decide) (hc.1 _ _ s0 (by omega)) ?_
          refine aw_subn rfl (by omega) ?_
          refine aw rfl rfl ?_
          refine aw_cs (d1 := 0) (L1 := 0) rfl rfl (by decide) (by decide) (Nat.le_of_ble_eq_true rfl) (c_sixes (by omega) ?_)
          refine aw rfl rfl ?_
          refine aw_cs (d1 := 1) (L1 := 24) rfl rfl (by decide) (by decide) (Nat.le_of_ble_eq_true rfl) (c_X11_lineOf (by omega) h6p (by omega) ?_)
          exact aw_iret rfl rfl (q _ _ _ _ _ _)
    · refine aw_ne rfl (fun c => absurd (by decide) c) (fun _ => ?_)
      refine aw_c (v := -1) rfl (by decide) ?_
      exact aw_iret rfl rfl (by rw [sp_out p] at q; exact q _ _ _ _ _ _)
  · skip
    refine aw rfl rfl ?_
    refine aw_cs (d1 := 1) (L1 := 22) rfl rfl (by decide) (by decide) (Nat.le_of_ble_eq_true rfl) (c_X11_isLong (fun n hn e => ?_) (fun p => ?_))
    · refine aw_ne rfl (fun _ => ?_) (fun c => absurd c (by decide))
      subst e
      rw [sp_in (Nat.zero_le _) hn (by decide)] at q
      have h6 := p6_le hn
      have hF : ∀ l w, Fc T (lwf W) none (hm T) n (S 4 * T.1 5) l w ≤ 6 ^ n := Fc_le (r := none) hG0 (fun j z => nomatch z) _ _
      have hFx := hF (S 0 * 3 + S 1) (S 2)
      have h6p := p6_pos n
      have hFm : Fc T (lwf W) none (hm T) n (S 4 * T.1 5) (S 0 * 3 + S 1) (S 2) ≤ Fc T (lwf W) none (hm T) n (S 4 * T.1 5) (S 0 * 3 + S 1) (S 2 + 1) := Fc_mono _ _ _ _
      have hF1 := hF (S 0 * 3 + S 1) (S 2 + 1)
      refine aw rfl rfl ?_
      refine aw rfl rfl ?_
      refine aw_cv (d1 := 8) (L1 := 208) rfl rfl mg_121 rfl rfl (by decide) (by decide) (Nat.le_of_ble_eq_true rfl) (c_X11_fills hM0 hG0 hn (by have := Nat.mul_le_mul s3 g5x; omega) n5 (fun v pl br lo c ct hc => ?_))
      refine aw rfl rfl ?_
      refine aw_cv (d1 := 3) (L1 := 64) rfl rfl mg_121 rfl rfl (by decide) (by decide) (Nat.le_of_ble_eq_true rfl) (c_X11_isOver hM0 hG0 hN0 hS0 (fun z => ?_) (fun z => ?_))
      · refine aw_eq rfl (fun c => absurd c (by decide)) (fun _ => ?_)
        rw [if_neg z] at q
        refine aw_c (v := nI 0) rfl (by decide) ?_
        refine aw_c (v := nI 1) rfl (by decide) ?_
        refine aw rfl rfl ?_
        refine aw_cs (d1 := 1) (L1 := 24) rfl rfl (by decide) (by decide) (Nat.le_of_ble_eq_true rfl) (c_X11_lineOf (a := 0) (m := 1) (by decide) (by decide) (by decide) ?_)
        exact aw_iret rfl rfl (q _ _ _ _ _ _)
      · refine aw_eq rfl (fun _ => ?_) (fun c => absurd (by decide) c)
        rw [if_pos z] at q
        refine aw rfl rfl ?_
        refine aw_cv (d1 := 1) (L1 := 23) rfl rfl mg_121 rfl rfl (by decide) (by decide) (Nat.le_of_ble_eq_true rfl) (c_X11_stateNow hM0 hG0 hN0 hS0 (fun y => absurd y (by omega)) (fun _ => ?_))
        refine aw_ist (ls' := [_, _, _, _, _, _, _, _]) rfl rfl ?_
        refine aw rfl rfl ?_
        refine aw_eq rfl (fun c => absurd c (by decide)) (fun _ => ?_)
        refine aw rfl rfl ?_
        refine aw_getf rfl mg_121 rfl ?_
        refine aw rfl rfl ?_
        refine aw_c (v := nI 1) rfl (by decide) ?_
        refine aw_addn rfl ?_
        rw [show 4 * (S 0 * 3 + S 1) + S 2 + 1 = 4 * (S 0 * 3 + S 1) + (S 2 + 1) by omega]
        refine aw_ialdE rfl mg_159 rfl (by omega) (by decide) (hc.1 _ _ s0 (by omega)) ?_
        refine aw rfl rfl ?_
        refine aw_ist (ls' := [_, _, _, _, _, _, _, _]) rfl rfl ?_
        refine aw_c (v := nI 0) rfl (by decide) ?_
        refine aw_ist (ls' := [_, _, _, _, _, _, _, _]) rfl rfl ?_
        refine aw rfl rfl ?_
        refine aw_c (v := nI 4) rfl (by decide) ?_
        refine aw_ige rfl (fun c => absurd c (by decide)) (fun _ => ?_)
        refine aw rfl rfl ?_
        refine aw_ne rfl (fun _ => ?_) (fun c => absurd c (by decide))
        refine aw rfl rfl ?_
        refine aw rfl rfl ?_
        refine aw_getf rfl mg_121 rfl ?_
        refine aw rfl rfl ?_
        refine aw_ialdE rfl mg_159 rfl (by omega) (by decide) (hc.1 _ _ s0 (by omega)) ?_
        refine aw_subn rfl (by omega) ?_
        refine aw rfl rfl ?_
        refine aw_cs (d1 := 0) (L1 := 0) rfl rfl (by decide) (by decide) (Nat.le_of_ble_eq_true rfl) (c_sixes (by omega) ?_)
        refine aw rfl rfl ?_
        refine aw_cs (d1 := 1) (L1 := 24) rfl rfl (by decide) (by decide) (Nat.le_of_ble_eq_true rfl) (c_X11_lineOf (by omega) h6p (by omega) ?_)
        exact aw_iret rfl rfl (q _ _ _ _ _ _)
    · refine aw_ne rfl (fun c => absurd (by decide) c) (fun _ => ?_)
      refine aw_c (v := -1) rfl (by decide) ?_
      exact aw_iret rfl rfl (by rw [sp_out p] at q; exact q _ _ _ _ _ _)
theorem c_X11_face {Q : Option Value → am_H → Prop} (hM : MR k lv T W) (hG : GS T) (hN : NR T (k.2.1 53) S) (hS : SG T S) {x : Int32} (q : ∀ v pl br lo c ct, Q (some (.int (a_face T (lwf W) S x))) (mh g k v pl br lo c ct pr pt cm bf bt)) : AC am_P 9 229 273 [.ref 121, .int x] (mh g k v pl br lo c ct pr pt cm bf bt) Q := by
  refine AC.of (ls := [_, _, _, _, _]) rfl ?_
  have hM0 := hM
  have hG0 := hG
  obtain ⟨m0, m1, mr, mw, mf, mk, mli, mt, ms, msq, moc, mwy, msp, mlw⟩ := hM
  obtain ⟨⟨g0, g0x⟩, ⟨g1, g1x⟩, ⟨g2, g2x⟩, ⟨g3, g3x⟩, g4, ⟨g5, g5x⟩, g6, gsq, goc, gwt, gsp, gfr⟩ := hG
  have hN0 := hN
  have hS0 := hS
  obtain ⟨n0, n1, n2, n3, n4, n5, n6, n7, n8⟩ := hN
  obtain ⟨s0, s1, s2, s3, s4, s5, s6⟩ := hS
  have hl96 := s0.1
  unfold a_face at q
  refine aw rfl rfl ?_
  refine aw_cs (d1 := 1) (L1 := 22) rfl rfl (by decide) (by decide) (Nat.le_of_ble_eq_true rfl) (c_X11_isLong (fun n hn e => ?_) (fun p => ?_))
  · refine aw_ne rfl (fun _ => ?_) (fun c => absurd c (by decide))
    subst e
    rw [sp_in (Nat.zero_le _) hn (by decide)] at q
    have h6 := p6_le hn
    have hF : ∀ l w, Fc T (lwf W) none (hm T) n (S 4 * T.1 5) l w ≤ 6 ^ n := Fc_le (r := none) hG0 (fun j z => nomatch z) _ _
    have hFx := hF (S 0 * 3 + S 1) (S 2)
    have h6p := p6_pos n
    refine aw rfl rfl ?_
    refine aw_cv (d1 := 3) (L1 := 64) rfl rfl mg_121 rfl rfl (by decide) (by decide) (Nat.le_of_ble_eq_true rfl) (c_X11_isOver hM0 hG0 hN0 hS0 (fun z => ?_) (fun z => ?_))
    · refine aw_eq rfl (fun c => absurd c (by decide)) (fun _ => ?_)
      rw [if_neg z] at q
      refine aw_c (v := -2) rfl (by decide) ?_
      exact aw_iret rfl rfl (q _ _ _ _ _ _)
    · refine aw_eq rfl (fun _ => ?_) (fun c => absurd (by decide) c)
      rw [if_pos z] at q
      refine aw rfl rfl ?_
      refine aw rfl rfl ?_
      refine aw_cv (d1 := 8) (L1 := 208) rfl rfl mg_121 rfl rfl (by decide) (by decide) (Nat.le_of_ble_eq_true rfl) (c_X11_fills hM0 hG0 hn (by have := Nat.mul_le_mul s3 g5x; omega) n5 (fun v pl br lo c ct hc => ?_))
      refine aw_c (v := nI 0) rfl (by decide) ?_
      refine aw_ist (ls' := [_, _, _, _, _]) rfl rfl ?_
      refine aw rfl rfl ?_
      refine aw_getf rfl mg_121 rfl ?_
      refine aw_c (v := nI 0) rfl (by decide) ?_
      refine aw_ialdE rfl mg_157 rfl (by omega) (by decide) n0 ?_
      refine aw rfl rfl ?_
      refine aw_getf rfl mg_121 rfl ?_
      refine aw_c (v := nI 1) rfl (by decide) ?_
      refine aw_ialdE rfl mg_157 rfl (by omega) (by decide) n1 ?_
      refine aw_c (v := nI 0) rfl (by decide) ?_
      refine aw rfl rfl ?_
      refine aw_getf rfl mg_121 rfl ?_
      refine aw_c (v := nI 3) rfl (by decide) ?_
      refine aw_ialdE rfl mg_157 rfl (by omega) (by decide) n3 ?_
      refine aw_cs (d1 := 0) (L1 := 0) rfl rfl (by decide) (by decide) (Nat.le_of_ble_eq_true rfl) (c_X11_numberOf ?_)
      refine aw_ist (ls' := [_, _, _, _, _]) rfl rfl ?_
      refine aw_c (v := nI 1) rfl (by decide) ?_
      refine aw_ist (ls' := [_, _, _, _, _]) rfl rfl ?_
      refine aw_loop (α := Unit) (ll := fun i y => [some (.ref 121), some (.int (nI n)), some (.int (nI (bsA (bs (fun f => Fc T (lwf W) none (hm T) n (S 4 * T.1 5) (S 0 * 3 + f) (S 2)) tt (i))))), some (.int (nI (((8 * (S 0 / 8) + S 0 % 8) * 3 + 0) * 4 + S 2))), some (.int (nI i))]) (hh := fun i y => (mh g k v pl br lo c ct pr pt cm bf bt)) (I := fun i y => 1 ≤ i ∧ ∃ p, (bs (fun f => Fc T (lwf W) none (hm T) n (S 4 * T.1 5) (S 0 * 3 + f) (S 2)) tt (i)) = some p) (N := T.1 2) (fun i y hi hI ih => ?_) (fun y hI => ?_) 1 () g2 ⟨Nat.le_refl _, _, rfl⟩
      · skip
        have hb : ∀ j, (fun f => Fc T (lwf W) none (hm T) n (S 4 * T.1 5) (S 0 * 3 + f) (S 2)) j < 2147483648 := fun j => by have := hF (S 0 * 3 + j) (S 2); dsimp only; omega
        obtain ⟨h1i, p, eb⟩ := hI
        have hpl := bs_lt _ _ _ _ eb
        rw [eb]
        show AW am_P _ _ _ _ [_, _, some (.int (nI p.1)), _, _] _ _ _
        have hp1 : p.1 < T.1 2 := by omega
        have hl1 : lieOK T (S 0 * 3 + i) := lie_face s0 (by omega) hi g2x
        have hl2 : lieOK T (S 0 * 3 + p.1) := lie_face s0 (by omega) hp1 g2x
        have hFi := hF (S 0 * 3 + i) (S 2)
        have hFp := hF (S 0 * 3 + p.1) (S 2)
        refine aw rfl rfl ?_
        refine aw rfl rfl ?_
        refine aw_getf rfl mg_121 rfl ?_
        refine aw rfl rfl ?_
        refine aw_getfE rfl mg_121 rfl (congrArg Value.int m1) ?_
        refine aw_ialdE rfl mg_133 rfl (by omega) (by decide) mf ?_
        refine aw_igen rfl (fun c63 => by omega) (fun c63 => ?_)
        refine aw rfl rfl ?_
        refine aw_getf rfl mg_121 rfl ?_
        refine aw rfl rfl ?_
        refine aw_c (v := nI 4) rfl (by decide) ?_
        refine aw rfl rfl ?_
        refine aw_muln rfl ?_
        refine aw_addn rfl ?_
        rw [show ((8 * (S 0 / 8) + S 0 % 8) * 3 + 0) * 4 + S 2 + 4 * i = 4 * (S 0 * 3 + i) + S 2 by omega]
        refine aw_ialdE rfl mg_159 rfl (by omega) (by decide) (hc.1 _ _ hl1 (by omega)) ?_
        refine aw rfl rfl ?_
        refine aw_getf rfl mg_121 rfl ?_
        refine aw rfl rfl ?_
        refine aw_c (v := nI 4) rfl (by decide) ?_
        refine aw rfl rfl ?_
        refine aw_muln rfl ?_
        refine aw_addn rfl ?_
        rw [show ((8 * (S 0 / 8) + S 0 % 8) * 3 + 0) * 4 + S 2 + 4 * p.1 = 4 * (S 0 * 3 + p.1) + S 2 by omega]
        refine aw_ialdE rfl mg_159 rfl (by omega) (by decide) (hc.1 _ _ hl2 (by omega)) ?_
        refine aw_ilen rfl (fun c87 => ?_) (fun c87 => ?_)
        · refine aw_incn (c := 1) (ls' := [_, _, _, _, _]) rfl rfl (by decide) rfl ?_
          refine aw rfl rfl ?_
          have e5 : (bs (fun f => Fc T (lwf W) none (hm T) n (S 4 * T.1 5) (S 0 * 3 + f) (S 2)) tt (i + 1)) = some p := by rw [bs_no hb rfl (by rw [eb]; show nI (Fc T _ none _ n _ (S 0 * 3 + i) (S 2)) ≤ nI p.2; rw [hpl.2.1]; exact nI_le c87 (by omega))]; exact eb
          have ih := ih () ⟨by omega, p, e5⟩
          rw [e5] at ih
          exact ih
        · refine aw rfl rfl ?_
          refine aw_ist (ls' := [_, _, _, _, _]) rfl rfl ?_
          refine aw_incn (c := 1) (ls' := [_, _, _, _, _]) rfl rfl (by decide) rfl ?_
          refine aw rfl rfl ?_
          have e5 : (bs (fun f => Fc T (lwf W) none (hm T) n (S 4 * T.1 5) (S 0 * 3 + f) (S 2)) tt (i + 1)) = some (i, Fc T (lwf W) none (hm T) n (S 4 * T.1 5) (S 0 * 3 + i) (S 2)) := bs_yes hb rfl (by rw [eb]; show ¬ nI (Fc T _ none _ n _ (S 0 * 3 + i) (S 2)) ≤ nI p.2; rw [hpl.2.1]; exact nI_ge (by omega) (by omega))
          have ih := ih () ⟨by omega, _, e5⟩
          rw [e5] at ih
          exact ih
      · skip
        refine aw rfl rfl ?_
        refine aw rfl rfl ?_
        refine aw_getf rfl mg_121 rfl ?_
        refine aw rfl rfl ?_
        refine aw_getfE rfl mg_121 rfl (congrArg Value.int m1) ?_
        refine aw_ialdE rfl mg_133 rfl (by omega) (by decide) mf ?_
        refine aw_igen rfl (fun c63 => ?_) (fun c63 => by omega)
        refine aw rfl rfl ?_
        exact aw_iret rfl rfl (q _ _ _ _ _ _)
  · refine aw_ne rfl (fun c => absurd (by decide) c) (fun _ => ?_)
    refine aw_c (v := -1) rfl (by decide) ?_
    exact aw_iret rfl rfl (by rw [sp_out p] at q; exact q _ _ _ _ _ _)
theorem c_X11_side {Q : Option Value → am_H → Prop} (hM : MR k lv T W) (hG : GS T) (hN : NR T (k.2.1 53) S) (hS : SG T S) {x : Int32} (q : ∀ v pl br lo c ct, Q (some (.int (a_side T (lwf W) S x))) (mh g k v pl br lo c ct pr pt cm bf bt)) : AC am_P 9 229 274 [.ref 121, .int x] (mh g k v pl br lo c ct pr pt cm bf bt) Q := by
  refine AC.of (ls := [_, _, _, _, _]) rfl ?_
  have hM0 := hM
  have hG0 := hG
  obtain ⟨m0, m1, mr, mw, mf, mk, mli, mt, ms, msq, moc, mwy, msp, mlw⟩ := hM
  obtain ⟨⟨g0, g0x⟩, ⟨g1, g1x⟩, ⟨g2, g2x⟩, ⟨g3, g3x⟩, g4, ⟨g5, g5x⟩, g6, gsq, goc, gwt, gsp, gfr⟩ := hG
  have hN0 := hN
  have hS0 := hS
  obtain ⟨n0, n1, n2, n3, n4, n5, n6, n7, n8⟩ := hN
  obtain ⟨s0, s1, s2, s3, s4, s5, s6⟩ := hS
  have hl96 := s0.1
  unfold a_side at q
  refine aw rfl rfl ?_
  refine aw_cs (d1 := 1) (L1 := 22) rfl rfl (by decide) (by decide) (Nat.le_of_ble_eq_true rfl) (c_X11_isLong (fun n hn e => ?_) (fun p => ?_))
  · refine aw_ne rfl (fun _ => ?_) (fun c => absurd c (by decide))
    subst e
    rw [sp_in (Nat.zero_le _) hn (by decide)] at q
    have h6 := p6_le hn
    have hF : ∀ l w, Fc T (lwf W) none (hm T) n (S 4 * T.1 5) l w ≤ 6 ^ n := Fc_le (r := none) hG0 (fun j z => nomatch z) _ _
    have hFx := hF (S 0 * 3 + S 1) (S 2)
    have h6p := p6_pos n
    refine aw rfl rfl ?_
    refine aw_cv (d1 := 3) (L1 := 64) rfl rfl mg_121 rfl rfl (by decide) (by decide) (Nat.le_of_ble_eq_true rfl) (c_X11_isOver hM0 hG0 hN0 hS0 (fun z => ?_) (fun z => ?_))
    · refine aw_eq rfl (fun c => absurd c (by decide)) (fun _ => ?_)
      rw [if_neg z] at q
      refine aw_c (v := -2) rfl (by decide) ?_
      exact aw_iret rfl rfl (q _ _ _ _ _ _)
    · refine aw_eq rfl (fun _ => ?_) (fun c => absurd (by decide) c)
      rw [if_pos z] at q
      refine aw rfl rfl ?_
      refine aw rfl rfl ?_
      refine aw_cv (d1 := 8) (L1 := 208) rfl rfl mg_121 rfl rfl (by decide) (by decide) (Nat.le_of_ble_eq_true rfl) (c_X11_fills hM0 hG0 hn (by have := Nat.mul_le_mul s3 g5x; omega) n5 (fun v pl br lo c ct hc => ?_))
      refine aw_c (v := -2) rfl (by decide) ?_
      refine aw_ist (ls' := [_, _, _, _, _]) rfl rfl ?_
      refine aw_c (v := nI 0) rfl (by decide) ?_
      refine aw_ist (ls' := [_, _, _, _, _]) rfl rfl ?_
      refine aw_loop (α := Option Value) (ll := fun i y => [some (.ref 121), some (.int (nI n)), some (.int (bs3 (bs (sdf (Fc T (lwf W) none (hm T) n (S 4 * T.1 5)) (S 0 % 8) (S 1) (S 2)) (sdc T (S 0 % 8)) (i)))), some (.int (nI i)), y]) (hh := fun i y => (mh g k v pl br lo c ct pr pt cm bf bt)) (I := fun i y => True) (N := T.1 1) (fun i y hi hI ih => ?_) (fun y hI => ?_) 0 none (Nat.zero_le _) trivial
      · skip
        have hb : ∀ j, sdf (Fc T (lwf W) none (hm T) n (S 4 * T.1 5)) (S 0 % 8) (S 1) (S 2) j < 2147483648 := fun j => by have := hF ((j * 8 + S 0 % 8) * 3 + S 1) (S 2); unfold sdf; omega
        have ha : S 0 % 8 < T.1 0 := by have := s0.2.1; rw [show (S 0 * 3 + S 1) / 3 = S 0 by omega] at this; exact this
        have h12 : S 1 < T.1 2 := by have := s0.2.2.2.1; omega
        cases eb : (bs (sdf (Fc T (lwf W) none (hm T) n (S 4 * T.1 5)) (S 0 % 8) (S 1) (S 2)) (sdc T (S 0 % 8)) (i)) with
        | none =>
          show AW am_P _ _ _ _ [_, _, some (.int (-2)), _, _] _ _ _
          refine aw rfl rfl ?_
          refine aw rfl rfl ?_
          refine aw_getf rfl mg_121 rfl ?_
          refine aw rfl rfl ?_
          refine aw_getfE rfl mg_121 rfl (congrArg Value.int m1) ?_
          refine aw_ialdE rfl mg_130 rfl (by omega) (by decide) mr ?_
          refine aw_igen rfl (fun c39 => by omega) (fun c39 => ?_)
          refine aw rfl rfl ?_
          refine aw rfl rfl ?_
          refine aw_getf rfl mg_121 rfl ?_
          refine aw_c (v := nI 0) rfl (by decide) ?_
          refine aw_ialdE rfl mg_157 rfl (by omega) (by decide) n0 ?_
          refine aw rfl rfl ?_
          refine aw_cv (d1 := 0) (L1 := 0) rfl rfl mg_121 rfl rfl (by decide) (by decide) (Nat.le_of_ble_eq_true rfl) (c_sa hM0 hG0 ha hi ?_)
          refine aw_ist (ls' := [_, _, _, _, _]) rfl rfl ?_
          refine aw rfl rfl ?_
          refine aw_c (v := nI 4) rfl (by decide) ?_
          refine aw_ieq rfl (fun c58 => ?_) (fun c58 => ?_)
          · refine aw_incn (c := 1) (ls' := [_, _, _, _, _]) rfl rfl (by decide) rfl ?_
            refine aw rfl rfl ?_
            have e5 : (bs (sdf (Fc T (lwf W) none (hm T) n (S 4 * T.1 5)) (S 0 % 8) (S 1) (S 2)) (sdc T (S 0 % 8)) (i + 1)) = (bs (sdf (Fc T (lwf W) none (hm T) n (S 4 * T.1 5)) (S 0 % 8) (S 1) (S 2)) (sdc T (S 0 % 8)) (i)) := bs_skip (by unfold sdc; rw [decide_eq_true c58]; rfl)
            have ih := ih (some (.int (T.2 0 (i * 8 + S 0 % 8)))) trivial
            rw [e5, eb] at ih
            exact ih
          · refine aw rfl rfl ?_
            refine aw_c (v := nI 5) rfl (by decide) ?_
            refine aw_ine rfl (fun c64 => ?_) (fun c64 => ?_)
            · have hcn : sdc T (S 0 % 8) i = true := by unfold sdc; rw [decide_eq_false c58, decide_eq_false c64]; rfl
              have hl1 : lieOK T ((i * 8 + S 0 % 8) * 3 + S 1) := lie_on ha hi h12 g0x g1x g2x c58 c64
              have hl196 := hl1.1
              refine aw rfl rfl ?_
              refine aw_lt rfl (fun _ => ?_) (fun c => absurd (by decide) c)
              refine aw rfl rfl ?_
              refine aw_ist (ls' := [_, _, _, _, _]) rfl rfl ?_
              refine aw_incn (c := 1) (ls' := [_, _, _, _, _]) rfl rfl (by decide) rfl ?_
              refine aw rfl rfl ?_
              have e5 : (bs (sdf (Fc T (lwf W) none (hm T) n (S 4 * T.1 5)) (S 0 % 8) (S 1) (S 2)) (sdc T (S 0 % 8)) (i + 1)) = some (i, sdf (Fc T (lwf W) none (hm T) n (S 4 * T.1 5)) (S 0 % 8) (S 1) (S 2) i) := bs_yes hb hcn (by rw [eb]; exact fun z => absurd (Int32.lt_of_lt_of_le (by decide : (-1 : Int32) < nI 0) (nI_le (Nat.zero_le _) (hb i))) (Int32.not_lt.mpr z))
              have ih := ih (some (.int (T.2 0 (i * 8 + S 0 % 8)))) trivial
              rw [e5] at ih
              exact ih
            · refine aw rfl rfl ?_
              refine aw_incn (c := 1) (ls' := [_, _, _, _, _]) rfl rfl (by decide) rfl ?_
              refine aw rfl rfl ?_
              have e5 : (bs (sdf (Fc T (lwf W) none (hm T) n (S 4 * T.1 5)) (S 0 % 8) (S 1) (S 2)) (sdc T (S 0 % 8)) (i + 1)) = (bs (sdf (Fc T (lwf W) none (hm T) n (S 4 * T.1 5)) (S 0 % 8) (S 1) (S 2)) (sdc T (S 0 % 8)) (i)) := bs_skip (by unfold sdc; rw [decide_eq_true c64, Bool.not_true, Bool.and_false])
              have ih := ih (some (.int (T.2 0 (i * 8 + S 0 % 8)))) trivial
              rw [e5, eb] at ih
              exact ih
        | some p =>
          show AW am_P _ _ _ _ [_, _, some (.int (nI p.1)), _, _] _ _ _
          have hpl0 := bs_lt _ _ _ _ eb
          refine aw rfl rfl ?_
          refine aw rfl rfl ?_
          refine aw_getf rfl mg_121 rfl ?_
          refine aw rfl rfl ?_
          refine aw_getfE rfl mg_121 rfl (congrArg Value.int m1) ?_
          refine aw_ialdE rfl mg_130 rfl (by omega) (by decide) mr ?_
          refine aw_igen rfl (fun c39 => by omega) (fun c39 => ?_)
          refine aw rfl rfl ?_
          refine aw rfl rfl ?_
          refine aw_getf rfl mg_121 rfl ?_
          refine aw_c (v := nI 0) rfl (by decide) ?_
          refine aw_ialdE rfl mg_157 rfl (by omega) (by decide) n0 ?_
          refine aw rfl rfl ?_
          refine aw_cv (d1 := 0) (L1 := 0) rfl rfl mg_121 rfl rfl (by decide) (by decide) (Nat.le_of_ble_eq_true rfl) (c_sa hM0 hG0 ha hi ?_)
          refine aw_ist (ls' := [_, _, _, _, _]) rfl rfl ?_
          refine aw rfl rfl ?_
          refine aw_c (v := nI 4) rfl (by decide) ?_
          refine aw_ieq rfl (fun c58 => ?_) (fun c58 => ?_)
          · refine aw_incn (c := 1) (ls' := [_, _, _, _, _]) rfl rfl (by decide) rfl ?_
            refine aw rfl rfl ?_
            have e5 : (bs (sdf (Fc T (lwf W) none (hm T) n (S 4 * T.1 5)) (S 0 % 8) (S 1) (S 2)) (sdc T (S 0 % 8)) (i + 1)) = (bs (sdf (Fc T (lwf W) none (hm T) n (S 4 * T.1 5)) (S 0 % 8) (S 1) (S 2)) (sdc T (S 0 % 8)) (i)) := bs_skip (by unfold sdc; rw [decide_eq_true c58]; rfl)
            have ih := ih (some (.int (T.2 0 (i * 8 + S 0 % 8)))) trivial
            rw [e5, eb] at ih
            exact ih
          · refine aw rfl rfl ?_
            refine aw_c (v := nI 5) rfl (by decide) ?_
            refine aw_ine rfl (fun c64 => ?_) (fun c64 => ?_)
            · have hcn : sdc T (S 0 % 8) i = true := by unfold sdc; rw [decide_eq_false c58, decide_eq_false c64]; rfl
              have hl1 : lieOK T ((i * 8 + S 0 % 8) * 3 + S 1) := lie_on ha hi h12 g0x g1x g2x c58 c64
              have hl196 := hl1.1
              have hpl := bs_lt _ _ _ _ eb
              have hcp := hpl.2.2
              have hl2 : lieOK T ((p.1 * 8 + S 0 % 8) * 3 + S 1) := by unfold sdc at hcp; rw [Bool.and_eq_true, Bool.not_eq_true', Bool.not_eq_true', decide_eq_false_iff_not, decide_eq_false_iff_not] at hcp; exact lie_on ha (by omega) h12 g0x g1x g2x hcp.1 hcp.2
              have hl296 := hl2.1
              have hFi := hF ((i * 8 + S 0 % 8) * 3 + S 1) (S 2)
              have hFp := hF ((p.1 * 8 + S 0 % 8) * 3 + S 1) (S 2)
              refine aw rfl rfl ?_
              refine aw_ltn rfl ?_
              refine aw rfl rfl ?_
              refine aw_getf rfl mg_121 rfl ?_
              refine aw rfl rfl ?_
              refine aw_getf rfl mg_121 rfl ?_
              refine aw_c (v := nI 0) rfl (by decide) ?_
              refine aw_ialdE rfl mg_157 rfl (by omega) (by decide) n0 ?_
              refine aw rfl rfl ?_
              refine aw rfl rfl ?_
              refine aw_getf rfl mg_121 rfl ?_
              refine aw_c (v := nI 2) rfl (by decide) ?_
              refine aw_ialdE rfl mg_157 rfl (by omega) (by decide) n2 ?_
              refine aw rfl rfl ?_
              refine aw_getf rfl mg_121 rfl ?_
              refine aw_c (v := nI 3) rfl (by decide) ?_
              refine aw_ialdE rfl mg_157 rfl (by omega) (by decide) n3 ?_
              refine aw_cs (d1 := 0) (L1 := 0) rfl rfl (by decide) (by decide) (Nat.le_of_ble_eq_true rfl) (c_X11_numberOf ?_)
              rw [show ((8 * i + S 0 % 8) * 3 + S 1) * 4 + S 2 = 4 * ((i * 8 + S 0 % 8) * 3 + S 1) + S 2 by omega]
              refine aw_ialdE rfl mg_159 rfl (by omega) (by decide) (hc.1 _ _ hl1 (by omega)) ?_
              refine aw rfl rfl ?_
              refine aw_getf rfl mg_121 rfl ?_
              refine aw rfl rfl ?_
              refine aw_getf rfl mg_121 rfl ?_
              refine aw_c (v := nI 0) rfl (by decide) ?_
              refine aw_ialdE rfl mg_157 rfl (by omega) (by decide) n0 ?_
              refine aw rfl rfl ?_
              refine aw rfl rfl ?_
              refine aw_getf rfl mg_121 rfl ?_
              refine aw_c (v := nI 2) rfl (by decide) ?_
              refine aw_ialdE rfl mg_157 rfl (by omega) (by decide) n2 ?_
              refine aw rfl rfl ?_
              refine aw_getf rfl mg_121 rfl ?_
              refine aw_c (v := nI 3) rfl (by decide) ?_
              refine aw_ialdE rfl mg_157 rfl (by omega) (by decide) n3 ?_
              refine aw_cs (d1 := 0) (L1 := 0) rfl rfl (by decide) (by decide) (Nat.le_of_ble_eq_true rfl) (c_X11_numberOf ?_)
              rw [show ((8 * p.1 + S 0 % 8) * 3 + S 1) * 4 + S 2 = 4 * ((p.1 * 8 + S 0 % 8) * 3 + S 1) + S 2 by omega]
              refine aw_ialdE rfl mg_159 rfl (by omega) (by decide) (hc.1 _ _ hl2 (by omega)) ?_
              refine aw_ilen rfl (fun c128 => ?_) (fun c128 => ?_)
              · refine aw_incn (c := 1) (ls' := [_, _, _, _, _]) rfl rfl (by decide) rfl ?_
                refine aw rfl rfl ?_
                have e5 : (bs (sdf (Fc T (lwf W) none (hm T) n (S 4 * T.1 5)) (S 0 % 8) (S 1) (S 2)) (sdc T (S 0 % 8)) (i + 1)) = (bs (sdf (Fc T (lwf W) none (hm T) n (S 4 * T.1 5)) (S 0 % 8) (S 1) (S 2)) (sdc T (S 0 % 8)) (i)) := bs_no hb hcn (by rw [eb]; show nI (Fc T _ none _ n _ ((i * 8 + S 0 % 8) * 3 + S 1) (S 2)) ≤ nI p.2; rw [hpl.2.1]; exact nI_le c128 (by show Fc T _ none _ n _ ((p.1 * 8 + S 0 % 8) * 3 + S 1) (S 2) < _; omega))
                have ih := ih (some (.int (T.2 0 (i * 8 + S 0 % 8)))) trivial
                rw [e5, eb] at ih
                exact ih
              · refine aw rfl rfl ?_
                refine aw_ist (ls' := [_, _, _, _, _]) rfl rfl ?_
                refine aw_incn (c := 1) (ls' := [_, _, _, _, _]) rfl rfl (by decide) rfl ?_
                refine aw rfl rfl ?_
                have e5 : (bs (sdf (Fc T (lwf W) none (hm T) n (S 4 * T.1 5)) (S 0 % 8) (S 1) (S 2)) (sdc T (S 0 % 8)) (i + 1)) = some (i, sdf (Fc T (lwf W) none (hm T) n (S 4 * T.1 5)) (S 0 % 8) (S 1) (S 2) i) := bs_yes hb hcn (by rw [eb]; show ¬ nI (Fc T _ none _ n _ ((i * 8 + S 0 % 8) * 3 + S 1) (S 2)) ≤ nI p.2; rw [hpl.2.1]; exact nI_ge (by show Fc T _ none _ n _ ((p.1 * 8 + S 0 % 8) * 3 + S 1) (S 2) < _; omega) (by omega))
                have ih := ih (some (.int (T.2 0 (i * 8 + S 0 % 8)))) trivial
                rw [e5] at ih
                exact ih
            · refine aw rfl rfl ?_
              refine aw_incn (c := 1) (ls' := [_, _, _, _, _]) rfl rfl (by decide) rfl ?_
              refine aw rfl rfl ?_
              have e5 : (bs (sdf (Fc T (lwf W) none (hm T) n (S 4 * T.1 5)) (S 0 % 8) (S 1) (S 2)) (sdc T (S 0 % 8)) (i + 1)) = (bs (sdf (Fc T (lwf W) none (hm T) n (S 4 * T.1 5)) (S 0 % 8) (S 1) (S 2)) (sdc T (S 0 % 8)) (i)) := bs_skip (by unfold sdc; rw [decide_eq_true c64, Bool.not_true, Bool.and_false])
              have ih := ih (some (.int (T.2 0 (i * 8 + S 0 % 8)))) trivial
              rw [e5, eb] at ih
              exact ih
      · skip
        refine aw rfl rfl ?_
        refine aw rfl rfl ?_
        refine aw_getf rfl mg_121 rfl ?_
        refine aw rfl rfl ?_
        refine aw_getfE rfl mg_121 rfl (congrArg Value.int m1) ?_
        refine aw_ialdE rfl mg_130 rfl (by omega) (by decide) mr ?_
        refine aw_igen rfl (fun c39 => ?_) (fun c39 => by omega)
        refine aw rfl rfl ?_
        exact aw_iret rfl rfl (q _ _ _ _ _ _)
  · refine aw_ne rfl (fun c => absurd (by decide) c) (fun _ => ?_)
    refine aw_c (v := -1) rfl (by decide) ?_
    exact aw_iret rfl rfl (by rw [sp_out p] at q; exact q _ _ _ _ _ _)
end M1
