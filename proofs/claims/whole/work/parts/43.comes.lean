/-! ===== the reference: spreads, comes ===== -/
def cmN (T : Sd) (LW : LWt) (S : Nat → Nat) (j n sq : Nat) : Nat := if S 6 = 2 then 0 else Fc T LW (some j) (fun l => decide (l / 3 = sq)) n (S 4 * T.1 5) (S 0 * 3 + S 1) (S 2)
def a_comes (T : Sd) (LW : LWt) (S : Nat → Nat) (y x z u : Int32) (b : Bool) : Int32 := kin T y fun j => sp x 0 10 fun n => pl_in T z u fun a e => nI (fr (cmN T LW S j n (e * 8 + a)) (6 ^ n) b)
theorem Fc_home {T : Sd} {LW : LWt} {r : Option Nat} {gl : Nat → Bool} {n t l w : Nat} (h : hm T l = true) : Fc T LW r gl n t l w = bif gl l then 6 ^ n else 0 := by
  cases n with
  | zero => rfl
  | succ n => show lay T LW _ _ _ l w _ = _; unfold lay; rw [if_pos h]
theorem Fc_away {T : Sd} {LW : LWt} {r : Option Nat} {gl : Nat → Bool} {n t l w : Nat} (h : ¬ hm T l = true) : Fc T LW r gl (n + 1) t l w = va T LW (Fc T LW r gl n (t + T.1 5)) l w (act T LW (Fc T LW r gl n (t + T.1 5)) r l w (nI t)) (nI t) := by
  show lay T LW _ _ _ l w _ = _; unfold lay; rw [if_neg h]
theorem Fc_st {T : Sd} {LW : LWt} {r : Option Nat} {gl : Nat → Bool} {n t l w : Nat} : (if hm T l = true then 6 * Fc T LW r gl n (t + T.1 5) l w else va T LW (Fc T LW r gl n (t + T.1 5)) l w (act T LW (Fc T LW r gl n (t + T.1 5)) r l w (nI t)) (nI t)) = Fc T LW r gl (n + 1) t l w := by
  by_cases h : hm T l = true
  · rw [if_pos h, Fc_home h, Fc_home h]
    cases gl l with
    | true => show 6 * 6 ^ n = 6 ^ (n + 1); rw [Nat.pow_succ, Nat.mul_comm]
    | false => rfl
  · rw [if_neg h, Fc_away h]
theorem sm_zero {f : Nat → Nat} : ∀ n, (∀ i, i < n → f i = 0) → sm f n = 0 := by
  intro n
  induction n with
  | zero => intro _; rfl
  | succ n ih => intro h; show sm f n + f n = 0; rw [ih (fun i hi => h i (by omega)), h n (by omega)]
theorem sm_le1 {f : Nat → Nat} : ∀ n i, i < n → f i ≤ sm f n := by
  intro n
  induction n with
  | zero => intro i h; omega
  | succ n ih =>
    intro i h
    show f i ≤ sm f n + f n
    by_cases e : i = n
    · subst e; omega
    · have := ih i (by omega); omega
theorem sm_win {f g : Nat → Nat} {a : Nat} (h0 : ∀ i, i < a → f i = 0) : ∀ k, (∀ i, i < k → f (a + i) = g i) → sm f (a + k) = sm g k := by
  intro k
  induction k with
  | zero => intro _; exact sm_zero a h0
  | succ k ih => intro h; show sm f (a + k) + f (a + k) = sm g k + g k; rw [ih (fun i hi => h i (by omega)), h k (by omega)]
theorem sm_tail {f : Nat → Nat} {a : Nat} : ∀ k, (∀ i, i < k → f (a + i) = 0) → sm f (a + k) = sm f a := by
  intro k
  induction k with
  | zero => intro _; rfl
  | succ k ih => intro h; show sm f (a + k) + f (a + k) = _; rw [ih (fun i hi => h i (by omega)), h k (by omega)]; rfl
theorem pV_sq {T : Sd} {LW : LWt} {r : Option Nat} {D : Nat → Nat} {sq t : Nat} (hs : sq < 32) : pV D (Fc T LW r (fun l => decide (l / 3 = sq)) 0 t) = sm (fun i => D (12 * sq + i)) 12 := by
  have hv : ∀ s, VS (Fc T LW r (fun l => decide (l / 3 = sq)) 0 t) s = if s = 384 then 0 else (bif decide (s / 4 / 3 = sq) then 1 else 0) := fun s => rfl
  have h1 : sm (fun s => D s * VS (Fc T LW r (fun l => decide (l / 3 = sq)) 0 t) s) (12 * sq + 12) = sm (fun i => D (12 * sq + i)) 12 := sm_win (fun i hi => by rw [hv, if_neg (by omega), decide_eq_false (by omega)]; rfl) 12 (fun i hi => by rw [hv, if_neg (by omega), decide_eq_true (by omega)]; exact Nat.mul_one _)
  have h2 : sm (fun s => D s * VS (Fc T LW r (fun l => decide (l / 3 = sq)) 0 t) s) (12 * sq + 12 + (373 - 12 * sq)) = _ := sm_tail (373 - 12 * sq) (fun i hi => by
    rw [hv]
    by_cases e : 12 * sq + 12 + i = 384
    · rw [if_pos e]; rfl
    · rw [if_neg e, decide_eq_false (by omega)]; rfl)
  rw [show 12 * sq + 12 + (373 - 12 * sq) = 385 by omega] at h2
  unfold pV
  rw [h2, h1]
theorem CE.put {c : Nat → Int32} {D : Nat → Nat} {m x : Nat} (h : CE c D) : CE (upd c m (nI x)) (va_up D m x) := h.up
theorem pV_0 {F : Nat → Nat → Nat} : pV (fun _ => 0) F = 0 := sm_zero _ (fun i _ => Nat.zero_mul _)
section M1
variable {g : am_H} {k : Mk} {v pl : Nat → Int32} {br lo : Int32} {c ct pr pt cm bf bt : Nat → Int32}
variable {lv : Nat} {T : Sd} {W : Nat → Lw}
variable {S : Nat → Nat}
theorem c_spX {Q : Option Value → am_H → Prop} (hM : MR k lv T W) (hG : GS T) {D E : Nat → Nat} {F : Nat → Nat → Nat} {x : Int32} {j s : Nat} (hD : CE c D) (hE : CE ct E) (hU : SU T D) (hs : s < 385) (hj : j < T.1 3) (h0 : ¬ D s = 0) (q : ∀ v pl br lo ct' E', CE ct' E' → SP T F E E' (6 * D s) (D s * (if s = 384 then 0 else if hm T (s / 4) = true then 6 * F (s / 4) (s % 4) else va T (lwf W) F (s / 4) (s % 4) (act T (lwf W) F (some j) (s / 4) (s % 4) x) x)) → Q none (mh g k v pl br lo c ct' pr pt cm bf bt)) : AC am_P 4 107 271 [.ref 121, .int (nI s), .int (nI j), .int x] (mh g k v pl br lo c ct pr pt cm bf bt) Q := by
  by_cases e : s = 384
  · subst e
    refine c_spreadsL (F := F) hM hG hD hE (fun ct' E' h1 h2 => q _ _ _ _ ct' E' h1 ?_)
    rw [if_pos rfl, Nat.mul_zero]; exact h2
  · have e4 : s = 4 * (s / 4) + s % 4 := by omega
    have hl : lieOK T (s / 4) := Classical.byContradiction (fun z => h0 (hU s (by omega) z))
    rw [if_neg e] at q
    have h := c_X11_spreadsOne (g := g) (v := v) (pl := pl) (br := br) (lo := lo) (pr := pr) (pt := pt) (cm := cm) (bf := bf) (bt := bt) (Q := Q) (F := F) (x := x) hM hG hD hE hl (show s % 4 < 4 by omega) hj
    rw [← e4] at h
    exact h q
theorem c_X11_spreads {Q : Option Value → am_H → Prop} (hM : MR k lv T W) (hG : GS T) (hN : NR T (k.2.1 53) S) (hS : SG T S) {j n : Nat} {gl : Nat → Bool} (hj : j < T.1 3) (hn : n ≤ 10) (q : ∀ v pl br lo c ct D, CE c D ∧ SU T D ∧ sm D 385 = 6 ^ n ∧ pV D (Fc T (lwf W) (some j) gl (n - n) (S 4 * T.1 5 + n * T.1 5)) = (if S 6 = 2 then 0 else Fc T (lwf W) (some j) gl n (S 4 * T.1 5) (S 0 * 3 + S 1) (S 2)) → Q none (mh g k v pl br lo c ct pr pt cm bf bt)) : AC am_P 5 131 270 [.ref 121, .int (nI j), .int (nI n)] (mh g k v pl br lo c ct pr pt cm bf bt) Q := by
  refine AC.of (ls := [_, _, _, _, _, _]) rfl ?_
  have hM0 := hM
  have hG0 := hG
  obtain ⟨m0, m1, mr, mw, mf, mk, mli, mt, ms, msq, moc, mwy, msp, mlw⟩ := hM
  obtain ⟨⟨g0, g0x⟩, ⟨g1, g1x⟩, ⟨g2, g2x⟩, ⟨g3, g3x⟩, g4, ⟨g5, g5x⟩, g6, gsq, goc, gwt, gsp, gfr⟩ := hG
  have hN0 := hN
  have hS0 := hS
  obtain ⟨n0, n1, n2, n3, n4, n5, n6, n7, n8⟩ := hN
  obtain ⟨s0, s1, s2, s3, s4, s5, s6⟩ := hS
  have hl96 := s0.1
  refine aw_c (v := nI 0) rfl (by decide) ?_
  refine aw_ist (ls' := [_, _, _, _, _, _]) rfl rfl ?_
  refine aw_loop (α := Nat → Int32) (ll := fun z y => [some (.ref 121), some (.int (nI j)), some (.int (nI n)), some (.int (nI z)), none, none]) (hh := fun z y => mh g k v pl br lo y ct pr pt cm bf bt) (I := fun z y => ∀ s, s < z → y s = nI 0) (N := 385) (fun z y hz hIz ihz => ?_) (fun y hIz => ?_) 0 c (Nat.zero_le _) (fun s hs => absurd hs (Nat.not_lt_zero _))
  · skip
    refine aw rfl rfl ?_
    refine aw_c (v := nI 385) rfl (by decide) ?_
    refine aw_igen rfl (fun c6 => by omega) (fun c6 => ?_)
    refine aw rfl rfl ?_
    refine aw_getf rfl mg_121 rfl ?_
    refine aw rfl rfl ?_
    refine aw_c (v := nI 0) rfl (by decide) ?_
    refine aw_iastU rfl mg_159 rfl (by omega) (by decide) (by decide) mu_159 ?_
    refine aw_incn (c := 1) (ls' := [_, _, _, _, _, _]) rfl rfl (by decide) rfl ?_
    refine aw rfl rfl ?_
    exact ihz (upd y z (nI 0)) (fun s hs => by
      by_cases e : s = z
      · subst e; unfold upd; rw [if_pos rfl]
      · unfold upd; rw [if_neg e]; exact hIz s (by omega))
  · skip
    refine aw rfl rfl ?_
    refine aw_c (v := nI 385) rfl (by decide) ?_
    refine aw_ige rfl (fun _ => ?_) (fun c => absurd (by decide) c)
    refine aw rfl rfl ?_
    refine aw_getf rfl mg_121 rfl ?_
    refine aw rfl rfl ?_
    refine aw_cv (d1 := 1) (L1 := 23) rfl rfl mg_121 rfl rfl (by decide) (by decide) (Nat.le_of_ble_eq_true rfl) (c_X11_stateNow hM0 hG0 hN0 hS0 (fun z => ?_) (fun z => ?_))
    · refine aw_c (v := nI 1) rfl (by decide) ?_
      refine aw_iastU rfl mg_159 rfl (by omega) (by decide) (by decide) mu_159 ?_
      refine aw_c (v := nI 0) rfl (by decide) ?_
      refine aw_ist (ls' := [_, _, _, _, _, _]) rfl rfl ?_
      have hy : CE y (fun _ => 0) := hIz
      have hs1 := sp_up (T := T) (F := Fc T (lwf W) (some j) gl n (S 4 * T.1 5)) (E := fun _ => 0) (m := 384) (x := 1) (by decide) (Or.inl rfl)
      have hI0 : CE (upd y (384) (nI 1)) (va_up (fun _ => 0) (384) 1) ∧ SU T (va_up (fun _ => 0) (384) 1) ∧ sm (va_up (fun _ => 0) (384) 1) 385 = 6 ^ 0 ∧ pV (va_up (fun _ => 0) (384) 1) (Fc T (lwf W) (some j) gl (n - 0) (S 4 * T.1 5 + 0 * T.1 5)) = (if S 6 = 2 then 0 else Fc T (lwf W) (some j) gl n (S 4 * T.1 5) (S 0 * 3 + S 1) (S 2)) := ⟨hy.up, hs1.2.2 (fun _ _ _ => rfl), by rw [hs1.2.1, sm_zero _ (fun _ _ => rfl)], by rw [Nat.zero_mul, Nat.add_zero, Nat.sub_zero, hs1.1, pV_0, show VS _ 384 = 0 from rfl]; rw [if_pos z]⟩
      refine (show ∀ c D, CE c D ∧ SU T D ∧ sm D 385 = 6 ^ 0 ∧ pV D (Fc T (lwf W) (some j) gl (n - 0) (S 4 * T.1 5 + 0 * T.1 5)) = (if S 6 = 2 then 0 else Fc T (lwf W) (some j) gl n (S 4 * T.1 5) (S 0 * 3 + S 1) (S 2)) → AW am_P 5 131 270 34 [some (.ref 121), some (.int (nI j)), some (.int (nI n)), some (.int (nI 0)), none, none] [] (mh g k v pl br lo c ct pr pt cm bf bt) Q from fun c D hI0 => ?_) _ _ hI0
      refine aw_loop (α := (Nat → Int32) × (Nat → Int32) × Int32 × Int32 × (Nat → Int32) × (Nat → Int32) × (Nat → Nat) × Option Value × Option Value) (ll := fun i y => [some (.ref 121), some (.int (nI j)), some (.int (nI n)), some (.int (nI i)), y.2.2.2.2.2.2.2.1, y.2.2.2.2.2.2.2.2]) (hh := fun i y => mh g k y.1 y.2.1 y.2.2.1 y.2.2.2.1 y.2.2.2.2.1 y.2.2.2.2.2.1 pr pt cm bf bt) (I := fun i y => CE y.2.2.2.2.1 y.2.2.2.2.2.2.1 ∧ SU T y.2.2.2.2.2.2.1 ∧ sm y.2.2.2.2.2.2.1 385 = 6 ^ i ∧ pV y.2.2.2.2.2.2.1 (Fc T (lwf W) (some j) gl (n - i) (S 4 * T.1 5 + i * T.1 5)) = (if S 6 = 2 then 0 else Fc T (lwf W) (some j) gl n (S 4 * T.1 5) (S 0 * 3 + S 1) (S 2))) (N := n) (fun i y hi hI ihi => ?_) (fun y hI => ?_) 0 (v, pl, br, lo, c, ct, D, none, none) (Nat.zero_le _) hI0
      · skip
        obtain ⟨v, pl, br, lo, c, ct, D, l4, l5⟩ := y
        obtain ⟨hD, hU, hT, hP⟩ := hI
        dsimp only at hD hU hT hP ⊢
        refine aw rfl rfl ?_
        refine aw rfl rfl ?_
        refine aw_igen rfl (fun c36 => by omega) (fun c36 => ?_)
        refine aw rfl rfl ?_
        refine aw_getf rfl mg_121 rfl ?_
        refine aw_c (v := nI 5) rfl (by decide) ?_
        refine aw_ialdE rfl mg_157 rfl (by omega) (by decide) n5 ?_
        refine aw rfl rfl ?_
        refine aw rfl rfl ?_
        refine aw_getf rfl mg_121 rfl ?_
        refine aw rfl rfl ?_
        refine aw_getfE rfl mg_121 rfl (congrArg Value.int m1) ?_
        refine aw_ialdE rfl mg_143 rfl (by omega) (by decide) mt ?_
        refine aw_muln rfl ?_
        refine aw_addn rfl ?_
        refine aw_ist (ls' := [_, _, _, _, _, _]) rfl rfl ?_
        refine aw_c (v := nI 0) rfl (by decide) ?_
        refine aw_ist (ls' := [_, _, _, _, _, _]) rfl rfl ?_
        refine aw_loop (α := Nat → Int32) (ll := fun z y => [some (.ref 121), some (.int (nI j)), some (.int (nI n)), some (.int (nI i)), some (.int (nI (S 4 * T.1 5 + i * T.1 5))), some (.int (nI z))]) (hh := fun z y => mh g k v pl br lo c y pr pt cm bf bt) (I := fun z y => ∀ s, s < z → y s = nI 0) (N := 385) (fun z y hz hIz ihz => ?_) (fun y hIz => ?_) 0 ct (Nat.zero_le _) (fun s hs => absurd hs (Nat.not_lt_zero _))
        · skip
          refine aw rfl rfl ?_
          refine aw_c (v := nI 385) rfl (by decide) ?_
          refine aw_igen rfl (fun c67 => by omega) (fun c67 => ?_)
          refine aw rfl rfl ?_
          refine aw_getf rfl mg_121 rfl ?_
          refine aw rfl rfl ?_
          refine aw_c (v := nI 0) rfl (by decide) ?_
          refine aw_iastU rfl mg_160 rfl (by omega) (by decide) (by decide) mu_160 ?_
          refine aw_incn (c := 1) (ls' := [_, _, _, _, _, _]) rfl rfl (by decide) rfl ?_
          refine aw rfl rfl ?_
          exact ihz (upd y z (nI 0)) (fun s hs => by
            by_cases e : s = z
            · subst e; unfold upd; rw [if_pos rfl]
            · unfold upd; rw [if_neg e]; exact hIz s (by omega))
        · skip
          refine aw rfl rfl ?_
          refine aw_c (v := nI 385) rfl (by decide) ?_
          refine aw_ige rfl (fun _ => ?_) (fun c => absurd (by decide) c)
          refine aw_c (v := nI 0) rfl (by decide) ?_
          refine aw_ist (ls' := [_, _, _, _, _, _]) rfl rfl ?_
          have hct : CE y (fun _ => 0) := hIz
          refine (show ∀ ct, CE ct (fun _ => 0) → AW am_P 5 131 270 87 [some (.ref 121), some (.int (nI j)), some (.int (nI n)), some (.int (nI i)), some (.int (nI (S 4 * T.1 5 + i * T.1 5))), some (.int (nI 0))] [] (mh g k v pl br lo c ct pr pt cm bf bt) Q from fun ct hct => ?_) y hct
          refine aw_loop (α := (Nat → Int32) × (Nat → Int32) × Int32 × Int32 × (Nat → Int32) × (Nat → Nat)) (ll := fun z y => [some (.ref 121), some (.int (nI j)), some (.int (nI n)), some (.int (nI i)), some (.int (nI (S 4 * T.1 5 + i * T.1 5))), some (.int (nI z))]) (hh := fun z y => mh g k y.1 y.2.1 y.2.2.1 y.2.2.2.1 c y.2.2.2.2.1 pr pt cm bf bt) (I := fun z y => CE y.2.2.2.2.1 y.2.2.2.2.2 ∧ SU T y.2.2.2.2.2 ∧ sm y.2.2.2.2.2 385 = 6 * sm D z ∧ pV y.2.2.2.2.2 (Fc T (lwf W) (some j) gl (n - (i + 1)) (S 4 * T.1 5 + i * T.1 5 + T.1 5)) = sm (fun s => D s * VS (Fc T (lwf W) (some j) gl (n - i) (S 4 * T.1 5 + i * T.1 5)) s) z) (N := 385) (fun z y hz hIz ihz => ?_) (fun y hIz => ?_) 0 (v, pl, br, lo, ct, fun _ => 0) (Nat.zero_le _) ⟨hct, fun _ _ _ => rfl, sm_zero _ (fun _ _ => rfl), pV_0⟩
          · skip
            obtain ⟨v, pl, br, lo, ct, E⟩ := y
            obtain ⟨hE, hU1, hT1, hP1⟩ := hIz
            dsimp only at hE hU1 hT1 hP1 ⊢
            have hDz := sm_le1 (f := D) 385 z hz
            have h610 := p6_le (show i ≤ 10 by omega)
            rw [hT] at hDz
            refine aw rfl rfl ?_
            refine aw_c (v := nI 385) rfl (by decide) ?_
            refine aw_igen rfl (fun c92 => by omega) (fun c92 => ?_)
            refine aw rfl rfl ?_
            refine aw_getf rfl mg_121 rfl ?_
            refine aw rfl rfl ?_
            refine aw_ialdE rfl mg_159 rfl (by omega) (by decide) (hD z hz) ?_
            refine aw_len rfl (fun c102 => ?_) (fun c102 => ?_)
            · refine aw_incn (c := 1) (ls' := [_, _, _, _, _, _]) rfl rfl (by decide) rfl ?_
              refine aw rfl rfl ?_
              exact ihz (v, pl, br, lo, ct, E) ⟨hE, hU1, by show sm E 385 = 6 * (sm D z + D z); rw [hT1, c102, Nat.add_zero], by show pV E _ = sm _ z + D z * VS _ z; rw [hP1, c102, Nat.zero_mul, Nat.add_zero]⟩
            · refine aw rfl rfl ?_
              refine aw rfl rfl ?_
              refine aw rfl rfl ?_
              refine aw rfl rfl ?_
              refine aw_cv (d1 := 4) (L1 := 107) rfl rfl mg_121 rfl rfl (by decide) (by decide) (Nat.le_of_ble_eq_true rfl) (c_spX hM0 hG0 (F := (Fc T (lwf W) (some j) gl (n - (i + 1)) (S 4 * T.1 5 + i * T.1 5 + T.1 5))) hD hE hU hz hj (by omega) (fun v pl br lo ct E hE3 hS3 => ?_))
              refine aw_incn (c := 1) (ls' := [_, _, _, _, _, _]) rfl rfl (by decide) rfl ?_
              refine aw rfl rfl ?_
              refine ihz (v, pl, br, lo, ct, E) ⟨hE3, hS3.2.2 hU1, ?_, ?_⟩
              · show sm E 385 = 6 * (sm D z + D z)
                rw [hS3.2.1, hT1, Nat.mul_add]
              · show pV E _ = sm _ z + D z * VS _ z
                rw [hS3.1, hP1]
                refine congrArg (HAdd.hAdd _) (congrArg (HMul.hMul (D z)) ?_)
                unfold VS
                by_cases e384 : z = 384
                · rw [if_pos e384, if_pos e384]
                · rw [if_neg e384, if_neg e384, Fc_st, show n - (i + 1) + 1 = n - i by omega]
          · skip
            obtain ⟨v, pl, br, lo, ct, E⟩ := y
            obtain ⟨hE2, hU2, hT2, hP2⟩ := hIz
            dsimp only at hE2 hU2 hT2 hP2 ⊢
            refine aw rfl rfl ?_
            refine aw_c (v := nI 385) rfl (by decide) ?_
            refine aw_ige rfl (fun _ => ?_) (fun c => absurd (by decide) c)
            refine aw_c (v := nI 0) rfl (by decide) ?_
            refine aw_ist (ls' := [_, _, _, _, _, _]) rfl rfl ?_
            refine aw_loop (α := Nat → Int32) (ll := fun z y => [some (.ref 121), some (.int (nI j)), some (.int (nI n)), some (.int (nI i)), some (.int (nI (S 4 * T.1 5 + i * T.1 5))), some (.int (nI z))]) (hh := fun z y => mh g k v pl br lo y ct pr pt cm bf bt) (I := fun z y => ∀ s, s < z → y s = nI (E s)) (N := 385) (fun z y hz hIz ihz => ?_) (fun y hIz => ?_) 0 c (Nat.zero_le _) (fun s hs => absurd hs (Nat.not_lt_zero _))
            · skip
              refine aw rfl rfl ?_
              refine aw_c (v := nI 385) rfl (by decide) ?_
              refine aw_igen rfl (fun c128 => by omega) (fun c128 => ?_)
              refine aw rfl rfl ?_
              refine aw_getf rfl mg_121 rfl ?_
              refine aw rfl rfl ?_
              refine aw rfl rfl ?_
              refine aw_getf rfl mg_121 rfl ?_
              refine aw rfl rfl ?_
              refine aw_iald rfl mg_160 rfl (by omega) (by decide) ?_
              refine aw_iastU rfl mg_159 rfl (by omega) (by decide) (by decide) mu_159 ?_
              refine aw_incn (c := 1) (ls' := [_, _, _, _, _, _]) rfl rfl (by decide) rfl ?_
              refine aw rfl rfl ?_
              exact ihz (upd y z (ct z)) (fun s hs => by
                by_cases e : s = z
                · subst e; unfold upd; rw [if_pos rfl]; exact hE2 s (by omega)
                · unfold upd; rw [if_neg e]; exact hIz s (by omega))
            · skip
              refine aw rfl rfl ?_
              refine aw_c (v := nI 385) rfl (by decide) ?_
              refine aw_ige rfl (fun _ => ?_) (fun c => absurd (by decide) c)
              refine aw_incn (c := 1) (ls' := [_, _, _, _, _, _]) rfl rfl (by decide) rfl ?_
              refine aw rfl rfl ?_
              exact ihi (v, pl, br, lo, y, ct, E, some (.int (nI (S 4 * T.1 5 + i * T.1 5))), some (.int (nI 385))) ⟨hIz, hU2, by rw [hT2, hT, Nat.pow_succ, Nat.mul_comm], by rw [show S 4 * T.1 5 + (i + 1) * T.1 5 = S 4 * T.1 5 + i * T.1 5 + T.1 5 by rw [Nat.add_mul]; omega, hP2]; exact hP⟩
      · skip
        obtain ⟨v, pl, br, lo, c, ct, D, l4, l5⟩ := y
        obtain ⟨hD, hU, hT, hP⟩ := hI
        dsimp only at hD hU hT hP ⊢
        refine aw rfl rfl ?_
        refine aw rfl rfl ?_
        refine aw_igen rfl (fun c36 => ?_) (fun c36 => by omega)
        exact aw_vret rfl rfl (q _ _ _ _ _ _ D ⟨hD, hU, hT, hP⟩)
    · refine aw_c (v := nI 1) rfl (by decide) ?_
      refine aw_iastU rfl mg_159 rfl (by omega) (by decide) (by decide) mu_159 ?_
      refine aw_c (v := nI 0) rfl (by decide) ?_
      refine aw_ist (ls' := [_, _, _, _, _, _]) rfl rfl ?_
      have hy : CE y (fun _ => 0) := hIz
      have hs1 := sp_up (T := T) (F := Fc T (lwf W) (some j) gl n (S 4 * T.1 5)) (E := fun _ => 0) (m := 4 * (S 0 * 3 + S 1) + S 2) (x := 1) (by omega) (on_ok s0 (by omega))
      have hI0 : CE (upd y (4 * (S 0 * 3 + S 1) + S 2) (nI 1)) (va_up (fun _ => 0) (4 * (S 0 * 3 + S 1) + S 2) 1) ∧ SU T (va_up (fun _ => 0) (4 * (S 0 * 3 + S 1) + S 2) 1) ∧ sm (va_up (fun _ => 0) (4 * (S 0 * 3 + S 1) + S 2) 1) 385 = 6 ^ 0 ∧ pV (va_up (fun _ => 0) (4 * (S 0 * 3 + S 1) + S 2) 1) (Fc T (lwf W) (some j) gl (n - 0) (S 4 * T.1 5 + 0 * T.1 5)) = (if S 6 = 2 then 0 else Fc T (lwf W) (some j) gl n (S 4 * T.1 5) (S 0 * 3 + S 1) (S 2)) := ⟨hy.up, hs1.2.2 (fun _ _ _ => rfl), by rw [hs1.2.1, sm_zero _ (fun _ _ => rfl)], by rw [Nat.zero_mul, Nat.add_zero, Nat.sub_zero, hs1.1, pV_0, vs_on hl96 (by omega)]; rw [if_neg z]; omega⟩
      refine (show ∀ c D, CE c D ∧ SU T D ∧ sm D 385 = 6 ^ 0 ∧ pV D (Fc T (lwf W) (some j) gl (n - 0) (S 4 * T.1 5 + 0 * T.1 5)) = (if S 6 = 2 then 0 else Fc T (lwf W) (some j) gl n (S 4 * T.1 5) (S 0 * 3 + S 1) (S 2)) → AW am_P 5 131 270 34 [some (.ref 121), some (.int (nI j)), some (.int (nI n)), some (.int (nI 0)), none, none] [] (mh g k v pl br lo c ct pr pt cm bf bt) Q from fun c D hI0 => ?_) _ _ hI0
      refine aw_loop (α := (Nat → Int32) × (Nat → Int32) × Int32 × Int32 × (Nat → Int32) × (Nat → Int32) × (Nat → Nat) × Option Value × Option Value) (ll := fun i y => [some (.ref 121), some (.int (nI j)), some (.int (nI n)), some (.int (nI i)), y.2.2.2.2.2.2.2.1, y.2.2.2.2.2.2.2.2]) (hh := fun i y => mh g k y.1 y.2.1 y.2.2.1 y.2.2.2.1 y.2.2.2.2.1 y.2.2.2.2.2.1 pr pt cm bf bt) (I := fun i y => CE y.2.2.2.2.1 y.2.2.2.2.2.2.1 ∧ SU T y.2.2.2.2.2.2.1 ∧ sm y.2.2.2.2.2.2.1 385 = 6 ^ i ∧ pV y.2.2.2.2.2.2.1 (Fc T (lwf W) (some j) gl (n - i) (S 4 * T.1 5 + i * T.1 5)) = (if S 6 = 2 then 0 else Fc T (lwf W) (some j) gl n (S 4 * T.1 5) (S 0 * 3 + S 1) (S 2))) (N := n) (fun i y hi hI ihi => ?_) (fun y hI => ?_) 0 (v, pl, br, lo, c, ct, D, none, none) (Nat.zero_le _) hI0
      · skip
        obtain ⟨v, pl, br, lo, c, ct, D, l4, l5⟩ := y
        obtain ⟨hD, hU, hT, hP⟩ := hI
        dsimp only at hD hU hT hP ⊢
        refine aw rfl rfl ?_
        refine aw rfl rfl ?_
        refine aw_igen rfl (fun c36 => by omega) (fun c36 => ?_)
        refine aw rfl rfl ?_
        refine aw_getf rfl mg_121 rfl ?_
        refine aw_c (v := nI 5) rfl (by decide) ?_
        refine aw_ialdE rfl mg_157 rfl (by omega) (by decide) n5 ?_
        refine aw rfl rfl ?_
        refine aw rfl rfl ?_
        refine aw_getf rfl mg_121 rfl ?_
        refine aw rfl rfl ?_
        refine aw_getfE rfl mg_121 rfl (congrArg Value.int m1) ?_
        refine aw_ialdE rfl mg_143 rfl (by omega) (by decide) mt ?_
        refine aw_muln rfl ?_
        refine aw_addn rfl ?_
        refine aw_ist (ls' := [_, _, _, _, _, _]) rfl rfl ?_
        refine aw_c (v := nI 0) rfl (by decide) ?_
        refine aw_ist (ls' := [_, _, _, _, _, _]) rfl rfl ?_
        refine aw_loop (α := Nat → Int32) (ll := fun z y => [some (.ref 121), some (.int (nI j)), some (.int (nI n)), some (.int (nI i)), some (.int (nI (S 4 * T.1 5 + i * T.1 5))), some (.int (nI z))]) (hh := fun z y => mh g k v pl br lo c y pr pt cm bf bt) (I := fun z y => ∀ s, s < z → y s = nI 0) (N := 385) (fun z y hz hIz ihz => ?_) (fun y hIz => ?_) 0 ct (Nat.zero_le _) (fun s hs => absurd hs (Nat.not_lt_zero _))
        · skip
          refine aw rfl rfl ?_
          refine aw_c (v := nI 385) rfl (by decide) ?_
          refine aw_igen rfl (fun c67 => by omega) (fun c67 => ?_)
          refine aw rfl rfl ?_
          refine aw_getf rfl mg_121 rfl ?_
          refine aw rfl rfl ?_
          refine aw_c (v := nI 0) rfl (by decide) ?_
          refine aw_iastU rfl mg_160 rfl (by omega) (by decide) (by decide) mu_160 ?_
          refine aw_incn (c := 1) (ls' := [_, _, _, _, _, _]) rfl rfl (by decide) rfl ?_
          refine aw rfl rfl ?_
          exact ihz (upd y z (nI 0)) (fun s hs => by
            by_cases e : s = z
            · subst e; unfold upd; rw [if_pos rfl]
            · unfold upd; rw [if_neg e]; exact hIz s (by omega))
        · skip
          refine aw rfl rfl ?_
          refine aw_c (v := nI 385) rfl (by decide) ?_
          refine aw_ige rfl (fun _ => ?_) (fun c => absurd (by decide) c)
          refine aw_c (v := nI 0) rfl (by decide) ?_
          refine aw_ist (ls' := [_, _, _, _, _, _]) rfl rfl ?_
          have hct : CE y (fun _ => 0) := hIz
          refine (show ∀ ct, CE ct (fun _ => 0) → AW am_P 5 131 270 87 [some (.ref 121), some (.int (nI j)), some (.int (nI n)), some (.int (nI i)), some (.int (nI (S 4 * T.1 5 + i * T.1 5))), some (.int (nI 0))] [] (mh g k v pl br lo c ct pr pt cm bf bt) Q from fun ct hct => ?_) y hct
          refine aw_loop (α := (Nat → Int32) × (Nat → Int32) × Int32 × Int32 × (Nat → Int32) × (Nat → Nat)) (ll := fun z y => [some (.ref 121), some (.int (nI j)), some (.int (nI n)), some (.int (nI i)), some (.int (nI (S 4 * T.1 5 + i * T.1 5))), some (.int (nI z))]) (hh := fun z y => mh g k y.1 y.2.1 y.2.2.1 y.2.2.2.1 c y.2.2.2.2.1 pr pt cm bf bt) (I := fun z y => CE y.2.2.2.2.1 y.2.2.2.2.2 ∧ SU T y.2.2.2.2.2 ∧ sm y.2.2.2.2.2 385 = 6 * sm D z ∧ pV y.2.2.2.2.2 (Fc T (lwf W) (some j) gl (n - (i + 1)) (S 4 * T.1 5 + i * T.1 5 + T.1 5)) = sm (fun s => D s * VS (Fc T (lwf W) (some j) gl (n - i) (S 4 * T.1 5 + i * T.1 5)) s) z) (N := 385) (fun z y hz hIz ihz => ?_) (fun y hIz => ?_) 0 (v, pl, br, lo, ct, fun _ => 0) (Nat.zero_le _) ⟨hct, fun _ _ _ => rfl, sm_zero _ (fun _ _ => rfl), pV_0⟩
          · skip
            obtain ⟨v, pl, br, lo, ct, E⟩ := y
            obtain ⟨hE, hU1, hT1, hP1⟩ := hIz
            dsimp only at hE hU1 hT1 hP1 ⊢
            have hDz := sm_le1 (f := D) 385 z hz
            have h610 := p6_le (show i ≤ 10 by omega)
            rw [hT] at hDz
            refine aw rfl rfl ?_
            refine aw_c (v := nI 385) rfl (by decide) ?_
            refine aw_igen rfl (fun c92 => by omega) (fun c92 => ?_)
            refine aw rfl rfl ?_
            refine aw_getf rfl mg_121 rfl ?_
            refine aw rfl rfl ?_
            refine aw_ialdE rfl mg_159 rfl (by omega) (by decide) (hD z hz) ?_
            refine aw_len rfl (fun c102 => ?_) (fun c102 => ?_)
            · refine aw_incn (c := 1) (ls' := [_, _, _, _, _, _]) rfl rfl (by decide) rfl ?_
              refine aw rfl rfl ?_
              exact ihz (v, pl, br, lo, ct, E) ⟨hE, hU1, by show sm E 385 = 6 * (sm D z + D z); rw [hT1, c102, Nat.add_zero], by show pV E _ = sm _ z + D z * VS _ z; rw [hP1, c102, Nat.zero_mul, Nat.add_zero]⟩
            · refine aw rfl rfl ?_
              refine aw rfl rfl ?_
              refine aw rfl rfl ?_
              refine aw rfl rfl ?_
              refine aw_cv (d1 := 4) (L1 := 107) rfl rfl mg_121 rfl rfl (by decide) (by decide) (Nat.le_of_ble_eq_true rfl) (c_spX hM0 hG0 (F := (Fc T (lwf W) (some j) gl (n - (i + 1)) (S 4 * T.1 5 + i * T.1 5 + T.1 5))) hD hE hU hz hj (by omega) (fun v pl br lo ct E hE3 hS3 => ?_))
              refine aw_incn (c := 1) (ls' := [_, _, _, _, _, _]) rfl rfl (by decide) rfl ?_
              refine aw rfl rfl ?_
              refine ihz (v, pl, br, lo, ct, E) ⟨hE3, hS3.2.2 hU1, ?_, ?_⟩
              · show sm E 385 = 6 * (sm D z + D z)
                rw [hS3.2.1, hT1, Nat.mul_add]
              · show pV E _ = sm _ z + D z * VS _ z
                rw [hS3.1, hP1]
                refine congrArg (HAdd.hAdd _) (congrArg (HMul.hMul (D z)) ?_)
                unfold VS
                by_cases e384 : z = 384
                · rw [if_pos e384, if_pos e384]
                · rw [if_neg e384, if_neg e384, Fc_st, show n - (i + 1) + 1 = n - i by omega]
          · skip
            obtain ⟨v, pl, br, lo, ct, E⟩ := y
            obtain ⟨hE2, hU2, hT2, hP2⟩ := hIz
            dsimp only at hE2 hU2 hT2 hP2 ⊢
            refine aw rfl rfl ?_
            refine aw_c (v := nI 385) rfl (by decide) ?_
            refine aw_ige rfl (fun _ => ?_) (fun c => absurd (by decide) c)
            refine aw_c (v := nI 0) rfl (by decide) ?_
            refine aw_ist (ls' := [_, _, _, _, _, _]) rfl rfl ?_
            refine aw_loop (α := Nat → Int32) (ll := fun z y => [some (.ref 121), some (.int (nI j)), some (.int (nI n)), some (.int (nI i)), some (.int (nI (S 4 * T.1 5 + i * T.1 5))), some (.int (nI z))]) (hh := fun z y => mh g k v pl br lo y ct pr pt cm bf bt) (I := fun z y => ∀ s, s < z → y s = nI (E s)) (N := 385) (fun z y hz hIz ihz => ?_) (fun y hIz => ?_) 0 c (Nat.zero_le _) (fun s hs => absurd hs (Nat.not_lt_zero _))
            · skip
              refine aw rfl rfl ?_
              refine aw_c (v := nI 385) rfl (by decide) ?_
              refine aw_igen rfl (fun c128 => by omega) (fun c128 => ?_)
              refine aw rfl rfl ?_
              refine aw_getf rfl mg_121 rfl ?_
              refine aw rfl rfl ?_
              refine aw rfl rfl ?_
              refine aw_getf rfl mg_121 rfl ?_
              refine aw rfl rfl ?_
              refine aw_iald rfl mg_160 rfl (by omega) (by decide) ?_
              refine aw_iastU rfl mg_159 rfl (by omega) (by decide) (by decide) mu_159 ?_
              refine aw_incn (c := 1) (ls' := [_, _, _, _, _, _]) rfl rfl (by decide) rfl ?_
              refine aw rfl rfl ?_
              exact ihz (upd y z (ct z)) (fun s hs => by
                by_cases e : s = z
                · subst e; unfold upd; rw [if_pos rfl]; exact hE2 s (by omega)
                · unfold upd; rw [if_neg e]; exact hIz s (by omega))
            · skip
              refine aw rfl rfl ?_
              refine aw_c (v := nI 385) rfl (by decide) ?_
              refine aw_ige rfl (fun _ => ?_) (fun c => absurd (by decide) c)
              refine aw_incn (c := 1) (ls' := [_, _, _, _, _, _]) rfl rfl (by decide) rfl ?_
              refine aw rfl rfl ?_
              exact ihi (v, pl, br, lo, y, ct, E, some (.int (nI (S 4 * T.1 5 + i * T.1 5))), some (.int (nI 385))) ⟨hIz, hU2, by rw [hT2, hT, Nat.pow_succ, Nat.mul_comm], by rw [show S 4 * T.1 5 + (i + 1) * T.1 5 = S 4 * T.1 5 + i * T.1 5 + T.1 5 by rw [Nat.add_mul]; omega, hP2]; exact hP⟩
      · skip
        obtain ⟨v, pl, br, lo, c, ct, D, l4, l5⟩ := y
        obtain ⟨hD, hU, hT, hP⟩ := hI
        dsimp only at hD hU hT hP ⊢
        refine aw rfl rfl ?_
        refine aw rfl rfl ?_
        refine aw_igen rfl (fun c36 => ?_) (fun c36 => by omega)
        exact aw_vret rfl rfl (q _ _ _ _ _ _ D ⟨hD, hU, hT, hP⟩)
theorem c_X11_comes {Q : Option Value → am_H → Prop} (hM : MR k lv T W) (hG : GS T) (hN : NR T (k.2.1 53) S) (hS : SG T S) {y x z u : Int32} {b : Bool} (q : ∀ v pl br lo c ct, Q (some (.int (a_comes T (lwf W) S y x z u b))) (mh g k v pl br lo c ct pr pt cm bf bt)) : AC am_P 6 156 269 [.ref 121, .int y, .int x, .int z, .int u, .int (bI b)] (mh g k v pl br lo c ct pr pt cm bf bt) Q := by
  refine AC.of (ls := [_, _, _, _, _, _, _, _]) rfl ?_
  have hM0 := hM
  have hG0 := hG
  obtain ⟨m0, m1, mr, mw, mf, mk, mli, mt, ms, msq, moc, mwy, msp, mlw⟩ := hM
  obtain ⟨⟨g0, g0x⟩, ⟨g1, g1x⟩, ⟨g2, g2x⟩, ⟨g3, g3x⟩, g4, ⟨g5, g5x⟩, g6, gsq, goc, gwt, gsp, gfr⟩ := hG
  have hN0 := hN
  have hS0 := hS
  obtain ⟨n0, n1, n2, n3, n4, n5, n6, n7, n8⟩ := hN
  obtain ⟨s0, s1, s2, s3, s4, s5, s6⟩ := hS
  have hl96 := s0.1
  unfold a_comes at q
  refine aw rfl rfl ?_
  refine aw rfl rfl ?_
  refine aw rfl rfl ?_
  refine aw_cv (d1 := 2) (L1 := 42) rfl rfl mg_121 rfl rfl (by decide) (by decide) (Nat.le_of_ble_eq_true rfl) (c_X11_isRule hM0 hG0 (fun j n ej hj en hn => ?_) (fun p => ?_))
  · refine aw_eq rfl (fun c => absurd c (by decide)) (fun _ => ?_)
    subst ej en
    rw [kin_yes g3x hj, sp_in (Nat.zero_le _) hn (by decide)] at q
    refine aw rfl rfl ?_
    refine aw rfl rfl ?_
    refine aw rfl rfl ?_
    refine aw_cv (d1 := 1) (L1 := 22) rfl rfl mg_121 rfl rfl (by decide) (by decide) (Nat.le_of_ble_eq_true rfl) (c_X11_isPlace hM0 hG0 (fun a e ea ee ha he => ?_) (fun z => ?_))
    · refine aw_ne rfl (fun _ => ?_) (fun c => absurd c (by decide))
      subst ea ee
      rw [pl_yes g0x g1x ha he] at q
      refine aw rfl rfl ?_
      refine aw rfl rfl ?_
      refine aw rfl rfl ?_
      refine aw_cv (d1 := 5) (L1 := 131) rfl rfl mg_121 rfl rfl (by decide) (by decide) (Nat.le_of_ble_eq_true rfl) (c_X11_spreads (gl := fun l => decide (l / 3 = e * 8 + a)) hM0 hG0 hN0 hS0 hj hn (fun v pl br lo c ct D hI => ?_))
      obtain ⟨hD, hU, hT, hP⟩ := hI
      have h6 := p6_le hn
      have h6p := p6_pos n
      have hcm : cmN T (lwf W) S j n (e * 8 + a) = sm (fun i => D (12 * (e * 8 + a) + i)) 12 := by
        rw [Nat.sub_self, pV_sq (by omega)] at hP
        exact hP.symm
      have hle : sm (fun i => D (12 * (e * 8 + a) + i)) 12 ≤ 6 ^ n := by
        rw [← hcm]
        unfold cmN
        split
        · exact Nat.zero_le _
        · exact Fc_le hG0 (fun i z => by cases z; exact hj) _ _ _ _
      refine aw_c (v := nI 0) rfl (by decide) ?_
      refine aw_ist (ls' := [_, _, _, _, _, _, _, _]) rfl rfl ?_
      refine aw_c (v := nI 0) rfl (by decide) ?_
      refine aw_ist (ls' := [_, _, _, _, _, _, _, _]) rfl rfl ?_
      refine aw_loop (α := Unit) (ll := fun i y => [some (.ref 121), some (.int (nI j)), some (.int (nI n)), some (.int (nI a)), some (.int (nI e)), some (.int (bI b)), some (.int (nI (sm (fun i => D (12 * (e * 8 + a) + i)) i))), some (.int (nI i))]) (hh := fun i y => (mh g k v pl br lo c ct pr pt cm bf bt)) (I := fun i y => True) (N := 12) (fun i y hi hI ih => ?_) (fun y hI => ?_) 0 () (Nat.zero_le _) trivial
      · skip
        refine aw rfl rfl ?_
        refine aw_c (v := nI 12) rfl (by decide) ?_
        refine aw_igen rfl (fun c37 => by omega) (fun c37 => ?_)
        refine aw rfl rfl ?_
        refine aw rfl rfl ?_
        refine aw_getf rfl mg_121 rfl ?_
        refine aw rfl rfl ?_
        refine aw rfl rfl ?_
        refine aw_c (v := nI 0) rfl (by decide) ?_
        refine aw_c (v := nI 0) rfl (by decide) ?_
        refine aw_cs (d1 := 0) (L1 := 0) rfl rfl (by decide) (by decide) (Nat.le_of_ble_eq_true rfl) (c_X11_numberOf ?_)
        refine aw rfl rfl ?_
        refine aw_addn rfl ?_
        rw [show ((8 * e + a) * 3 + 0) * 4 + 0 + i = 12 * (e * 8 + a) + i by omega]
        refine aw_ialdE rfl mg_159 rfl (by omega) (by decide) (hD _ (by omega)) ?_
        refine aw_addn rfl ?_
        refine aw_ist (ls' := [_, _, _, _, _, _, _, _]) rfl rfl ?_
        refine aw_incn (c := 1) (ls' := [_, _, _, _, _, _, _, _]) rfl rfl (by decide) rfl ?_
        refine aw rfl rfl ?_
        exact ih () trivial
      · skip
        refine aw rfl rfl ?_
        refine aw_c (v := nI 12) rfl (by decide) ?_
        refine aw_ige rfl (fun _ => ?_) (fun c => absurd (by decide) c)
        refine aw rfl rfl ?_
        refine aw rfl rfl ?_
        refine aw_cs (d1 := 0) (L1 := 0) rfl rfl (by decide) (by decide) (Nat.le_of_ble_eq_true rfl) (c_sixes (by omega) ?_)
        refine aw rfl rfl ?_
        refine aw_cs (d1 := 1) (L1 := 24) rfl rfl (by decide) (by decide) (Nat.le_of_ble_eq_true rfl) (c_X11_lineOf (by omega) h6p (by omega) ?_)
        exact aw_iret rfl rfl (by rw [hcm] at q; exact q _ _ _ _ _ _)
    · refine aw_ne rfl (fun c => absurd (by decide) c) (fun _ => ?_)
      refine aw_c (v := -1) rfl (by decide) ?_
      exact aw_iret rfl rfl (by rw [pl_no z] at q; exact q _ _ _ _ _ _)
  · refine aw_eq rfl (fun _ => ?_) (fun c => absurd (by decide) c)
    refine aw_c (v := -1) rfl (by decide) ?_
    exact aw_iret rfl rfl (by rw [p] at q; exact q _ _ _ _ _ _)
end M1
