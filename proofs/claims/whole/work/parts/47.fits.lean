/-! ===== the reference: fits, often, tell, forget ===== -/
def stS (T : Sd) : Nat := (T.2 6 1).toNatClampNeg * 8 + (T.2 6 0).toNatClampNeg
def stF (T : Sd) : Nat := (T.2 6 2).toNatClampNeg
def sqI (T : Sd) (TD : Nat → Nat) (i : Nat) : Nat := if i = 0 then stS T else TD (i - 1)
def TDR (T : Sd) (k : Mk) (td : Nat) (TD : Nat → Nat) : Prop := td ≤ 5 ∧ k.1 63 = nI td ∧ ∀ i, i < td → k.2.1 64 i = nI (TD i % 8) ∧ k.2.1 65 i = nI (TD i / 8) ∧ TD i < 32 ∧ TD i % 8 < T.1 0 ∧ TD i / 8 < T.1 1
def fitN (T : Sd) (LW : LWt) (TD : Nat → Nat) (kc i : Nat) : Option (Nat → Nat) → Option (Nat → Nat)
  | none => none
  | some U => if kc < T.1 3 then some (fitS T LW (sqI T TD i) (TD i) kc (nI (i * T.1 5)) U) else none
def fitU (T : Sd) (LW : LWt) (TD : Nat → Nat) (k code : Nat) : Nat → Option (Nat → Nat)
  | 0 => some (fun f => if f = stF T then 1 else 0)
  | i + 1 => fitN T LW TD (code / 4 ^ (k - 1 - i) % 4) i (fitU T LW TD k code i)
def oftV : Option (Nat → Nat) → Nat
  | none => 0
  | some U => U 0 + U 1 + U 2
def oft (T : Sd) (LW : LWt) (TD : Nat → Nat) (k code : Nat) : Nat := oftV (fitU T LW TD k code k)
def nthF (P : Nat → Bool) (x : Int32) : Nat → Nat → Nat → Option Nat
  | 0, _, _ => none
  | m + 1, c, n => bif P c then (if nI n = x then some c else nthF P x m (c + 1) (n + 1)) else nthF P x m (c + 1) n
def ftP (T : Sd) (LW : LWt) (TD : Nat → Nat) (k : Nat) : Nat → Bool := fun c => !(decide (oft T LW TD k c = 0))
def a_fits (T : Sd) (LW : LWt) (TD : Nat → Nat) (td : Nat) (y x : Int32) : Int32 := sp y 0 td fun k => if x < -1 then -1 else if x = -1 then nI (ctN (ftP T LW TD k) (4 ^ k)) else exI (nthF (ftP T LW TD k) x (4 ^ k) 0 0)
def oftI (T : Sd) (LW : LWt) (TD : Nat → Nat) (k : Nat) : Option Nat → Int32
  | none => -1
  | some c => nI (oft T LW TD k c)
def a_often (T : Sd) (LW : LWt) (TD : Nat → Nat) (td : Nat) (y x : Int32) : Int32 := sp y 0 td fun k => if x < 0 then -1 else oftI T LW TD k (nthF (ftP T LW TD k) x (4 ^ k) 0 0)
theorem p18_le {n : Nat} (h : n ≤ 5) : 18 ^ n ≤ 1889568 := Nat.le_trans (Nat.pow_le_pow_right (by decide) h) (by decide)
theorem fitU_in {T : Sd} {LW : LWt} {TD : Nat → Nat} {k code : Nat} (hG : GS T) : ∀ i U, (∀ j, j < i → TD j < 32) → fitU T LW TD k code i = some U → (∀ f, f < 3 → U f ≤ 18 ^ i) ∧ ∀ f, f < 3 → ¬ U f = 0 → lieOK T (sqI T TD i * 3 + f) := by
  intro i
  induction i with
  | zero =>
    intro U _ h
    cases h
    refine ⟨fun f _ => by show (if _ then _ else _) ≤ 1; split <;> decide, fun f hf h => ?_⟩
    have hG0 := hG
    obtain ⟨⟨g0, g0x⟩, ⟨g1, g1x⟩, ⟨g2, g2x⟩, ⟨g3, g3x⟩, g4, ⟨g5, g5x⟩, g6, gsq, goc, gwt, gsp, gfr⟩ := hG
    obtain ⟨a, e, w, h0, h1, h2, h3, h4, h5, h6⟩ := gsp
    have e1 : f = stF T := Decidable.byContradiction (fun z => h (if_neg z))
    have e2 : stF T = w := by unfold stF; rw [h2, nI_clamp (by omega)]
    show lieOK T (stS T * 3 + f)
    rw [e1, e2, show stS T = e * 8 + a by unfold stS; rw [h0, h1, nI_clamp (by omega), nI_clamp (by omega)]]
    exact h6
  | succ i ih =>
    intro U ht h
    rw [fitU] at h
    cases e : fitU T LW TD k code i with
    | none => rw [e] at h; cases h
    | some V =>
      rw [e] at h
      obtain ⟨h1, h2⟩ := ih V (fun j hj => ht j (by omega)) e
      unfold fitN at h
      dsimp only at h
      by_cases hk : code / 4 ^ (k - 1 - i) % 4 < T.1 3
      · rw [if_pos hk] at h
        cases h
        refine ⟨fun f hf => ?_, fun f hf h => ?_⟩
        · rw [Nat.pow_succ, Nat.mul_comm (18 ^ i)]; exact fitS_le hG hk h1
        · show lieOK T (TD i * 3 + f)
          exact fitS_lie hG hk (ht i (by omega)) hf h2 h
      · rw [if_neg hk] at h; cases h
theorem oft_le {T : Sd} {LW : LWt} {TD : Nat → Nat} {k code : Nat} (hG : GS T) (hk : k ≤ 5) (ht : ∀ j, j < k → TD j < 32) : oft T LW TD k code < 100000000 := by
  unfold oft
  cases e : fitU T LW TD k code k with
  | none => exact (by decide : 0 < 100000000)
  | some U =>
    have h := (fitU_in hG k U ht e).1
    have h0 := h 0 (by decide)
    have h1 := h 1 (by decide)
    have h2 := h 2 (by decide)
    have := p18_le hk
    show U 0 + U 1 + U 2 < _
    omega
theorem fitU_none {T : Sd} {LW : LWt} {TD : Nat → Nat} {k code i : Nat} (h : fitU T LW TD k code i = none) : ∀ d, fitU T LW TD k code (i + d) = none := by
  intro d
  induction d with
  | zero => exact h
  | succ d ih => show fitN _ _ _ _ _ (fitU T LW TD k code (i + d)) = none; rw [ih]; rfl
theorem n_shl4 : ∀ k, k ≤ 5 → nI 1 <<< (nI (2 * k) &&& 31) = nI (4 ^ k) := by
  intro k hk
  have : k = 0 ∨ k = 1 ∨ k = 2 ∨ k = 3 ∨ k = 4 ∨ k = 5 := by omega
  rcases this with rfl | rfl | rfl | rfl | rfl | rfl <;> decide
theorem p4_le {k : Nat} (h : k ≤ 5) : 4 ^ k ≤ 1024 := Nat.le_trans (Nat.pow_le_pow_right (by decide) h) (by decide)
theorem p4_pos (k : Nat) : 0 < 4 ^ k := Nat.pow_pos (by decide)
theorem p4_div {k i : Nat} (h : i < k) : 4 ^ (k - i) / 4 = 4 ^ (k - 1 - i) := by
  rw [show k - i = k - 1 - i + 1 by omega, Nat.pow_succ, Nat.mul_div_cancel _ (by decide)]
section M1
variable {g : am_H} {k : Mk} {v pl : Nat → Int32} {br lo : Int32} {c ct pr pt cm bf bt : Nat → Int32}
variable {lv : Nat} {T : Sd} {W : Nat → Lw}
variable {S : Nat → Nat} {td : Nat} {TD : Nat → Nat}
theorem c_X11_scratches {Q : Option Value → am_H → Prop} (hM : MR k lv T W) (hG : GS T) (hT : TDR T k td TD) {i j : Nat} {U : Nat → Nat} (hi : i < td) (hj : j < T.1 3) (hU : ∀ f, f < 3 → bf f = nI (U f)) (hUb : ∀ f, f < 3 → U f < 100000000) (hUl : ∀ f, f < 3 → ¬ U f = 0 → lieOK T (sqI T TD i * 3 + f)) (q : ∀ v pl br lo bf bt, (∀ f, f < 3 → bf f = nI (fitS T (lwf W) (sqI T TD i) (TD i) j (nI (i * T.1 5)) U f)) → Q none (mh g k v pl br lo c ct pr pt cm bf bt)) : AC am_P 4 107 288 [.ref 121, .int (nI j), .int (nI i)] (mh g k v pl br lo c ct pr pt cm bf bt) Q := by
  refine AC.of (ls := [_, _, _, _, _, _, _, _, _]) rfl ?_
  have hM0 := hM
  have hG0 := hG
  obtain ⟨m0, m1, mr, mw, mf, mk, mli, mt, ms, msq, moc, mwy, msp, mlw⟩ := hM
  obtain ⟨⟨g0, g0x⟩, ⟨g1, g1x⟩, ⟨g2, g2x⟩, ⟨g3, g3x⟩, g4, ⟨g5, g5x⟩, g6, gsq, goc, gwt, gsp, gfr⟩ := hG
  have hT0 := hT
  obtain ⟨t5, t63, tin⟩ := hT
  have hti := tin i hi
  by_cases e0 : i = 0
  · subst e0
    obtain ⟨a, e, w, h0, h1, h2, h3, h4, h5, h6⟩ := gsp
    have es : stS T = e * 8 + a := by unfold stS; rw [h0, h1, nI_clamp (by omega), nI_clamp (by omega)]
    have es2 : sqI T TD 0 = e * 8 + a := es
    rw [es2] at hUl q
    refine aw rfl rfl ?_
    refine aw_ne rfl (fun c => absurd (by decide) c) (fun _ => ?_)
    refine aw rfl rfl ?_
    refine aw_getf rfl mg_121 rfl ?_
    refine aw_c (v := nI 3) rfl (by decide) ?_
    refine aw rfl rfl ?_
    refine aw_getfE rfl mg_121 rfl (congrArg Value.int m1) ?_
    refine aw_muln rfl ?_
    refine aw_ialdE rfl mg_140 rfl (by omega) (by decide) ((msp 0 (by decide)).1.trans h0) ?_
    refine aw rfl rfl ?_
    refine aw_ist (ls' := [_, _, _, _, _, _, _, _, _]) rfl rfl ?_
    refine aw rfl rfl ?_
    refine aw_ne rfl (fun c => absurd (by decide) c) (fun _ => ?_)
    refine aw rfl rfl ?_
    refine aw_getf rfl mg_121 rfl ?_
    refine aw_c (v := nI 3) rfl (by decide) ?_
    refine aw rfl rfl ?_
    refine aw_getfE rfl mg_121 rfl (congrArg Value.int m1) ?_
    refine aw_muln rfl ?_
    refine aw_c (v := nI 1) rfl (by decide) ?_
    refine aw_addn rfl ?_
    refine aw_ialdE rfl mg_140 rfl (by omega) (by decide) ((msp 1 (by decide)).1.trans h1) ?_
    refine aw rfl rfl ?_
    refine aw_ist (ls' := [_, _, _, _, _, _, _, _, _]) rfl rfl ?_
    have h := l_scr (Q := Q) (g := g) (v := v) (pl := pl) (br := br) (lo := lo) (c := c) (ct := ct) (pr := pr) (pt := pt) (cm := cm) (bt := bt) hM0 hG0 (i := 0) (sq := e * 8 + a) (td := TD 0) (by omega) hj hU hUb hUl (by omega) hti.1 hti.2.1 hti.2.2.1 q
    rw [show (e * 8 + a) % 8 = a by omega, show (e * 8 + a) / 8 = e by omega] at h
    exact h
  · have htp := tin (i - 1) (by omega)
    have es2 : sqI T TD i = TD (i - 1) := if_neg e0
    rw [es2] at hUl q
    refine aw rfl rfl ?_
    refine aw_nen rfl (fun c1 => ?_) (fun c1 => by omega)
    refine aw rfl rfl ?_
    refine aw_getf rfl mg_121 rfl ?_
    refine aw rfl rfl ?_
    refine aw_c (v := nI 1) rfl (by decide) ?_
    refine aw_subn rfl (by omega) ?_
    refine aw_ialdE rfl mg_165 rfl (by omega) (by decide) htp.1 ?_
    refine aw_ist (ls' := [_, _, _, _, _, _, _, _, _]) rfl rfl ?_
    refine aw rfl rfl ?_
    refine aw_nen rfl (fun c28 => ?_) (fun c28 => by omega)
    refine aw rfl rfl ?_
    refine aw_getf rfl mg_121 rfl ?_
    refine aw rfl rfl ?_
    refine aw_c (v := nI 1) rfl (by decide) ?_
    refine aw_subn rfl (by omega) ?_
    refine aw_ialdE rfl mg_166 rfl (by omega) (by decide) htp.2.1 ?_
    refine aw_ist (ls' := [_, _, _, _, _, _, _, _, _]) rfl rfl ?_
    have h := l_scr (Q := Q) (g := g) (v := v) (pl := pl) (br := br) (lo := lo) (c := c) (ct := ct) (pr := pr) (pt := pt) (cm := cm) (bt := bt) hM0 hG0 (i := i) (sq := TD (i - 1)) (td := TD i) (by omega) hj hU hUb hUl (by omega) hti.1 hti.2.1 hti.2.2.1 q
    skip
    exact h
theorem c_X11_oftenBy {Q : Option Value → am_H → Prop} (hM : MR k lv T W) (hG : GS T) (hT : TDR T k td TD) {kk code : Nat} (hk : kk ≤ td) (hc : code < 4 ^ kk) (q : ∀ v pl br lo bf bt, Q (some (.int (nI (oft T (lwf W) TD kk code)))) (mh g k v pl br lo c ct pr pt cm bf bt)) : AC am_P 5 135 287 [.ref 121, .int (nI kk), .int (nI code)] (mh g k v pl br lo c ct pr pt cm bf bt) Q := by
  refine AC.of (ls := [_, _, _, _, _, _]) rfl ?_
  have hM0 := hM
  have hG0 := hG
  obtain ⟨m0, m1, mr, mw, mf, mk, mli, mt, ms, msq, moc, mwy, msp, mlw⟩ := hM
  obtain ⟨⟨g0, g0x⟩, ⟨g1, g1x⟩, ⟨g2, g2x⟩, ⟨g3, g3x⟩, g4, ⟨g5, g5x⟩, g6, gsq, goc, gwt, gsp, gfr⟩ := hG
  have hT0 := hT
  obtain ⟨t5, t63, tin⟩ := hT
  have h32 : ∀ j, j < kk → TD j < 32 := fun j hj => (tin j (by omega)).2.2.1
  have h44 := p4_le (show kk ≤ 5 by omega)
  refine aw_c (v := nI 0) rfl (by decide) ?_
  refine aw_ist (ls' := [_, _, _, _, _, _]) rfl rfl ?_
  refine aw_loop (α := Nat → Int32) (ll := fun z y => [some (.ref 121), some (.int (nI kk)), some (.int (nI code)), some (.int (nI z)), none, none]) (hh := fun z y => mh g k v pl br lo c ct pr pt cm y bt) (I := fun z y => ∀ f, f < z → y f = nI ((fun f => if f = stF T then 1 else 0) f)) (N := 3) (fun z y hz hIz ihz => ?_) (fun y hIz => ?_) 0 bf (Nat.zero_le _) (fun f hf => absurd hf (Nat.not_lt_zero _))
  · skip
    have ew : T.2 6 2 = nI (stF T) := by obtain ⟨a, e, w, h0, h1, h2, h3, h4, h5, h6⟩ := gsp; rw [h2]; unfold stF; rw [h2, nI_clamp (by omega)]
    have hst : stF T < 3 := by obtain ⟨a, e, w, h0, h1, h2, h3, h4, h5, h6⟩ := gsp; unfold stF; rw [h2, nI_clamp (by omega)]; omega
    refine aw rfl rfl ?_
    refine aw_c (v := nI 3) rfl (by decide) ?_
    refine aw_igen rfl (fun c4 => by omega) (fun c4 => ?_)
    refine aw rfl rfl ?_
    refine aw_getf rfl mg_121 rfl ?_
    refine aw rfl rfl ?_
    refine aw rfl rfl ?_
    refine aw rfl rfl ?_
    refine aw_getf rfl mg_121 rfl ?_
    refine aw_c (v := nI 3) rfl (by decide) ?_
    refine aw rfl rfl ?_
    refine aw_getfE rfl mg_121 rfl (congrArg Value.int m1) ?_
    refine aw_muln rfl ?_
    refine aw_c (v := nI 2) rfl (by decide) ?_
    refine aw_addn rfl ?_
    refine aw_ialdE rfl mg_140 rfl (by omega) (by decide) ((msp 2 (by decide)).1.trans ew) ?_
    refine aw_inen rfl (fun c26 => ?_) (fun c26 => ?_)
    · refine aw_c (v := nI 0) rfl (by decide) ?_
      refine aw_iastU rfl mg_167 rfl (by omega) (by decide) (by decide) mu_167 ?_
      refine aw_incn (c := 1) (ls' := [_, _, _, _, _, _]) rfl rfl (by decide) rfl ?_
      refine aw rfl rfl ?_
      exact ihz (upd y z (nI 0)) (fun f hf => by
        by_cases e : f = z
        · subst e; exact upd_at.trans (congrArg nI (show 0 = if f = stF T then 1 else 0 by rw [if_neg c26]))
        · exact (upd_ne e).trans (hIz f (by omega)))
    · refine aw_c (v := nI 1) rfl (by decide) ?_
      refine aw rfl rfl ?_
      refine aw_iastU rfl mg_167 rfl (by omega) (by decide) (by decide) mu_167 ?_
      refine aw_incn (c := 1) (ls' := [_, _, _, _, _, _]) rfl rfl (by decide) rfl ?_
      refine aw rfl rfl ?_
      exact ihz (upd y z (nI 1)) (fun f hf => by
        by_cases e : f = z
        · subst e; exact upd_at.trans (congrArg nI (show 1 = if f = stF T then 1 else 0 by rw [if_pos c26]))
        · exact (upd_ne e).trans (hIz f (by omega)))
  · skip
    refine aw rfl rfl ?_
    refine aw_c (v := nI 3) rfl (by decide) ?_
    refine aw_ige rfl (fun _ => ?_) (fun c => absurd (by decide) c)
    refine aw_c (v := nI 1) rfl (by decide) ?_
    refine aw_c (v := nI 2) rfl (by decide) ?_
    refine aw rfl rfl ?_
    refine aw_muln rfl ?_
    refine aw rfl rfl ?_
    rw [n_shl4 kk (by omega)]
    refine aw_ist (ls' := [_, _, _, _, _, _]) rfl rfl ?_
    refine aw_c (v := nI 0) rfl (by decide) ?_
    refine aw_ist (ls' := [_, _, _, _, _, _]) rfl rfl ?_
    rw [show 4 ^ kk = 4 ^ (kk - 0) from rfl]
    refine aw_loop (α := (Nat → Int32) × (Nat → Int32) × Int32 × Int32 × (Nat → Int32) × (Nat → Int32) × Option Value × (Nat → Nat)) (ll := fun i y => [some (.ref 121), some (.int (nI kk)), some (.int (nI code)), some (.int (nI (4 ^ (kk - i)))), some (.int (nI i)), y.2.2.2.2.2.2.1]) (hh := fun i y => mh g k y.1 y.2.1 y.2.2.1 y.2.2.2.1 c ct pr pt cm y.2.2.2.2.1 y.2.2.2.2.2.1) (I := fun i y => (∀ f, f < 3 → y.2.2.2.2.1 f = nI (y.2.2.2.2.2.2.2 f)) ∧ fitU T (lwf W) TD kk code i = some y.2.2.2.2.2.2.2) (N := kk) (fun i y hi hI ih => ?_) (fun y hI => ?_) 0 (v, pl, br, lo, y, bt, none, _) (Nat.zero_le _) ⟨hIz, rfl⟩
    · skip
      obtain ⟨v, pl, br, lo, bf, bt, l5, U⟩ := y
      obtain ⟨hU, eU⟩ := hI
      dsimp only at hU eU ⊢
      obtain ⟨hUb, hUl⟩ := fitU_in hG0 i U (fun j hj => h32 j (by omega)) eU
      have h4p := p4_pos (kk - 1 - i)
      have h4q := p4_le (show kk - i ≤ 5 by omega)
      have h4r := p4_le (show kk - 1 - i ≤ 5 by omega)
      have h18 := p18_le (show i ≤ 5 by omega)
      have hcd := Nat.div_le_self code (4 ^ (kk - 1 - i))
      refine aw rfl rfl ?_
      refine aw rfl rfl ?_
      refine aw_igen rfl (fun c53 => by omega) (fun c53 => ?_)
      refine aw rfl rfl ?_
      refine aw_c (v := nI 4) rfl (by decide) ?_
      refine aw_divn rfl (by omega) (by omega) (by omega) ?_
      rw [p4_div hi]
      refine aw_ist (ls' := [_, _, _, _, _, _]) rfl rfl ?_
      refine aw rfl rfl ?_
      refine aw rfl rfl ?_
      refine aw_divn rfl (by omega) (by omega) (by omega) ?_
      refine aw_c (v := nI 4) rfl (by decide) ?_
      refine aw_remn rfl (by omega) (by omega) (by omega) ?_
      refine aw_ist (ls' := [_, _, _, _, _, _]) rfl rfl ?_
      refine aw rfl rfl ?_
      refine aw rfl rfl ?_
      refine aw_getf rfl mg_121 rfl ?_
      refine aw rfl rfl ?_
      refine aw_getfE rfl mg_121 rfl (congrArg Value.int m1) ?_
      refine aw_ialdE rfl mg_134 rfl (by omega) (by decide) mk ?_
      refine aw_iltn rfl (fun c78 => ?_) (fun c78 => ?_)
      · refine aw rfl rfl ?_
        refine aw rfl rfl ?_
        refine aw rfl rfl ?_
        refine aw_cv (d1 := 4) (L1 := 107) rfl rfl mg_121 rfl rfl (by decide) (by decide) (Nat.le_of_ble_eq_true rfl) (c_X11_scratches (U := U) hM0 hG0 hT0 (by omega) c78 hU (fun f hf => by have := hUb f hf; omega) hUl (fun v pl br lo bf bt hV => ?_))
        refine aw_incn (c := 1) (ls' := [_, _, _, _, _, _]) rfl rfl (by decide) rfl ?_
        refine aw rfl rfl ?_
        have ih := ih (v, pl, br, lo, bf, bt, some (.int (nI (code / 4 ^ (kk - 1 - i) % 4))), _) ⟨hV, by rw [fitU, eU]; exact if_pos c78⟩
        rw [show kk - (i + 1) = kk - 1 - i by omega] at ih
        exact ih
      · refine aw_c (v := nI 0) rfl (by decide) ?_
        exact aw_iret rfl rfl (by have e : oft T (lwf W) TD kk code = 0 := (by have h9 : fitU T (lwf W) TD kk code (i + 1) = none := (by rw [fitU, eU]; exact if_neg c78); have h10 := fitU_none h9 (kk - (i + 1)); rw [show i + 1 + (kk - (i + 1)) = kk by omega] at h10; unfold oft; rw [h10]; rfl); rw [e] at q; exact q _ _ _ _ _ _)
    · skip
      obtain ⟨v, pl, br, lo, bf, bt, l5, U⟩ := y
      obtain ⟨hU, eU⟩ := hI
      dsimp only at hU eU ⊢
      refine aw rfl rfl ?_
      refine aw rfl rfl ?_
      refine aw_igen rfl (fun c53 => ?_) (fun c53 => by omega)
      refine aw rfl rfl ?_
      refine aw_getf rfl mg_121 rfl ?_
      refine aw_c (v := nI 0) rfl (by decide) ?_
      refine aw_ialdE rfl mg_167 rfl (by omega) (by decide) (hU 0 (by decide)) ?_
      refine aw rfl rfl ?_
      refine aw_getf rfl mg_121 rfl ?_
      refine aw_c (v := nI 1) rfl (by decide) ?_
      refine aw_ialdE rfl mg_167 rfl (by omega) (by decide) (hU 1 (by decide)) ?_
      refine aw_addn rfl ?_
      refine aw rfl rfl ?_
      refine aw_getf rfl mg_121 rfl ?_
      refine aw_c (v := nI 2) rfl (by decide) ?_
      refine aw_ialdE rfl mg_167 rfl (by omega) (by decide) (hU 2 (by decide)) ?_
      refine aw_addn rfl ?_
      exact aw_iret rfl rfl (by have e : oft T (lwf W) TD kk code = U 0 + U 1 + U 2 := (by unfold oft; rw [eU]; rfl); rw [e] at q; exact q _ _ _ _ _ _)
theorem c_X11_fitting {Q : Option Value → am_H → Prop} (hM : MR k lv T W) (hG : GS T) (hT : TDR T k td TD) {kk : Nat} {x : Int32} (hk : kk ≤ td) (q : ∀ v pl br lo bf bt, Q (some (.int (match nthF (ftP T (lwf W) TD kk) x (4 ^ kk) 0 0 with | some c => nI c | none => -1 - nI (ctN (ftP T (lwf W) TD kk) (4 ^ kk))))) (mh g k v pl br lo c ct pr pt cm bf bt)) : AC am_P 6 160 286 [.ref 121, .int (nI kk), .int x] (mh g k v pl br lo c ct pr pt cm bf bt) Q := by
  refine AC.of (ls := [_, _, _, _, _]) rfl ?_
  have hM0 := hM
  have hG0 := hG
  obtain ⟨m0, m1, mr, mw, mf, mk, mli, mt, ms, msq, moc, mwy, msp, mlw⟩ := hM
  obtain ⟨⟨g0, g0x⟩, ⟨g1, g1x⟩, ⟨g2, g2x⟩, ⟨g3, g3x⟩, g4, ⟨g5, g5x⟩, g6, gsq, goc, gwt, gsp, gfr⟩ := hG
  have hT0 := hT
  obtain ⟨t5, t63, tin⟩ := hT
  have h32 : ∀ j, j < kk → TD j < 32 := fun j hj => (tin j (by omega)).2.2.1
  have h44 := p4_le (show kk ≤ 5 by omega)
  have h45 := n_shl4 kk (by omega)
  have key : ∀ m i n v pl br lo bf bt, i + m = 4 ^ kk → n = ctN (ftP T (lwf W) TD kk) i → (∀ v pl br lo bf bt, Q (some (.int (match nthF (ftP T (lwf W) TD kk) x m i n with | some c => nI c | none => -1 - nI (ctN (ftP T (lwf W) TD kk) (4 ^ kk))))) (mh g k v pl br lo c ct pr pt cm bf bt)) → AW am_P 6 160 286 5 [some (.ref 121), some (.int (nI kk)), some (.int x), some (.int (nI n)), some (.int (nI i))] [] (mh g k v pl br lo c ct pr pt cm bf bt) Q := by
    intro m
    induction m with
    | zero =>
      intro i n v pl br lo bf bt hi hn q
      refine aw rfl rfl ?_
      refine aw_c (v := nI 1) rfl (by decide) ?_
      refine aw_c (v := nI 2) rfl (by decide) ?_
      refine aw rfl rfl ?_
      refine aw_muln rfl ?_
      refine aw rfl rfl ?_
      rw [h45]
      refine aw_igen rfl (fun c12 => ?_) (fun c12 => by omega)
      refine aw_c (v := -1) rfl (by decide) ?_
      refine aw rfl rfl ?_
      refine aw rfl rfl ?_
      exact aw_iret rfl rfl (by rw [show i = 4 ^ kk by omega] at hn; subst hn; exact q _ _ _ _ _ _)
    | succ m ih =>
      intro i n v pl br lo bf bt hi hn q
      have hct := ctN_le (P := ftP T (lwf W) TD kk) i
      have hof := oft_le (LW := lwf W) (k := kk) (code := i) hG0 (by omega) h32
      rw [nthF] at q
      refine aw rfl rfl ?_
      refine aw_c (v := nI 1) rfl (by decide) ?_
      refine aw_c (v := nI 2) rfl (by decide) ?_
      refine aw rfl rfl ?_
      refine aw_muln rfl ?_
      refine aw rfl rfl ?_
      rw [h45]
      refine aw_igen rfl (fun c12 => by omega) (fun c12 => ?_)
      refine aw rfl rfl ?_
      refine aw rfl rfl ?_
      refine aw rfl rfl ?_
      refine aw_cv (d1 := 5) (L1 := 135) rfl rfl mg_121 rfl rfl (by decide) (by decide) (Nat.le_of_ble_eq_true rfl) (c_X11_oftenBy hM0 hG0 hT0 hk (by omega) (fun v pl br lo bf bt => ?_))
      refine aw_nen rfl (fun c22 => ?_) (fun c22 => ?_)
      · have ep : ftP T (lwf W) TD kk i = true := by unfold ftP; rw [decide_eq_false c22]; rfl
        refine aw rfl rfl ?_
        refine aw rfl rfl ?_
        refine aw_ine rfl (fun c30 => ?_) (fun c30 => ?_)
        · refine aw_incn (c := 1) (ls' := [_, _, _, _, _]) rfl rfl (by decide) rfl ?_
          refine aw_incn (c := 1) (ls' := [_, _, _, _, _]) rfl rfl (by decide) rfl ?_
          refine aw rfl rfl ?_
          exact ih (i + 1) (n + 1) _ _ _ _ _ _ (by omega) (by rw [hn]; show ctN _ i + 1 = ctN _ i + (bif _ then 1 else 0); rw [ep]; rfl) (by rw [ep, cond_true, if_neg c30] at q; exact q)
        · refine aw rfl rfl ?_
          exact aw_iret rfl rfl (by rw [ep, cond_true, if_pos c30] at q; exact q _ _ _ _ _ _)
      · have ep : ftP T (lwf W) TD kk i = false := by unfold ftP; rw [decide_eq_true c22]; rfl
        refine aw rfl rfl ?_
        refine aw_incn (c := 1) (ls' := [_, _, _, _, _]) rfl rfl (by decide) rfl ?_
        refine aw rfl rfl ?_
        exact ih (i + 1) n _ _ _ _ _ _ (by omega) (by rw [hn]; show ctN _ i = ctN _ i + (bif _ then 1 else 0); rw [ep]; rfl) (by rw [ep, cond_false] at q; exact q)
  refine aw_c (v := nI 0) rfl (by decide) ?_
  refine aw_ist (ls' := [_, _, _, _, _]) rfl rfl ?_
  refine aw_c (v := nI 0) rfl (by decide) ?_
  refine aw_ist (ls' := [_, _, _, _, _]) rfl rfl ?_
  exact key (4 ^ kk) 0 0 _ _ _ _ _ _ (Nat.zero_add _) rfl q
theorem n_mm (n : Nat) : -1 - (-1 - nI n) = nI n := by rw [Int32.sub_eq_add_neg, Int32.neg_sub, Int32.sub_eq_add_neg, ← Int32.add_assoc, Int32.add_comm (-1), Int32.add_assoc]; simp
theorem n_mneg {n : Nat} (h : n < 2147483647) : -1 - nI n < 0 := by
  rw [Int32.lt_iff_toInt_lt, Int32.toInt_sub, nI_toInt (by omega)]
  show Int.bmod (-1 - (n : Int)) _ < 0
  rw [Int.bmod_eq_of_le (by omega) (by omega)]
  omega
theorem nthF_m1 {P : Nat → Bool} : ∀ m i n, n + m < 2147483648 → nthF P (-1) m i n = none := by
  intro m
  induction m with
  | zero => intro i n _; rfl
  | succ m ih =>
    intro i n h
    rw [nthF]
    cases P i with
    | true => rw [cond_true, if_neg (n_m1 (by omega))]; exact ih _ _ (by omega)
    | false => rw [cond_false]; exact ih _ _ (by omega)
theorem nthF_lt {P : Nat → Bool} {x : Int32} : ∀ m i n c, nthF P x m i n = some c → c < i + m := by
  intro m
  induction m with
  | zero => intro i n c h; cases h
  | succ m ih =>
    intro i n c h
    rw [nthF] at h
    cases e : P i with
    | true =>
      rw [e, cond_true] at h
      by_cases e2 : nI n = x
      · rw [if_pos e2] at h; cases h; omega
      · rw [if_neg e2] at h; have := ih _ _ _ h; omega
    | false => rw [e, cond_false] at h; have := ih _ _ _ h; omega
theorem c_X11_fits {Q : Option Value → am_H → Prop} (hM : MR k lv T W) (hG : GS T) (hT : TDR T k td TD) {y x : Int32} (q : ∀ v pl br lo bf bt, Q (some (.int (a_fits T (lwf W) TD td y x))) (mh g k v pl br lo c ct pr pt cm bf bt)) : AC am_P 7 184 285 [.ref 121, .int y, .int x] (mh g k v pl br lo c ct pr pt cm bf bt) Q := by
  refine AC.of (ls := [_, _, _, _]) rfl ?_
  have hM0 := hM
  have hG0 := hG
  obtain ⟨m0, m1, mr, mw, mf, mk, mli, mt, ms, msq, moc, mwy, msp, mlw⟩ := hM
  obtain ⟨⟨g0, g0x⟩, ⟨g1, g1x⟩, ⟨g2, g2x⟩, ⟨g3, g3x⟩, g4, ⟨g5, g5x⟩, g6, gsq, goc, gwt, gsp, gfr⟩ := hG
  have hT0 := hT
  obtain ⟨t5, t63, tin⟩ := hT
  unfold a_fits at q
  refine aw rfl rfl ?_
  refine aw_c (v := nI 0) rfl (by decide) ?_
  refine aw rfl rfl ?_
  refine aw_getfE rfl mg_121 rfl (congrArg Value.int t63) ?_
  refine aw_cs (d1 := 0) (L1 := 0) rfl rfl (by decide) (by decide) (Nat.le_of_ble_eq_true rfl) (c_X11_in (fun p1 p2 => ?_) (fun p => ?_))
  · refine aw_eq rfl (fun c => absurd c (by decide)) (fun _ => ?_)
    obtain ⟨n, rfl, _, hn⟩ := n_of3 p1 p2 (by omega) (by decide)
    rw [sp_in (Nat.zero_le _) hn (by omega)] at q
    have h44 := p4_le (show n ≤ 5 by omega)
    have hct := ctN_le (P := ftP T (lwf W) TD n) (4 ^ n)
    refine aw rfl rfl ?_
    refine aw_c (v := -1) rfl (by decide) ?_
    refine aw_ige rfl (fun c14 => ?_) (fun c14 => ?_)
    · rw [if_neg (Int32.not_lt.mpr c14)] at q
      refine aw rfl rfl ?_
      refine aw rfl rfl ?_
      refine aw rfl rfl ?_
      refine aw_cv (d1 := 6) (L1 := 160) rfl rfl mg_121 rfl rfl (by decide) (by decide) (Nat.le_of_ble_eq_true rfl) (c_X11_fitting hM0 hG0 hT0 hn (fun v pl br lo bf bt => ?_))
      refine aw_ist (ls' := [_, _, _, _]) rfl rfl ?_
      refine aw rfl rfl ?_
      refine aw_c (v := -1) rfl (by decide) ?_
      refine aw_ine rfl (fun c28 => ?_) (fun c28 => ?_)
      · rw [if_neg c28] at q
        refine aw rfl rfl ?_
        refine aw_ge rfl (fun c38 => ?_) (fun c38 => ?_)
        · refine aw rfl rfl ?_
          exact aw_iret rfl rfl (by revert c38 q; cases nthF (ftP T (lwf W) TD n) x (4 ^ n) 0 0 with
                | some d => intro q _; exact q _ _ _ _ _ _
                | none => intro q c38; exact absurd (n_mneg (n := ctN (ftP T (lwf W) TD n) (4 ^ n)) (by omega)) (Int32.not_lt.mpr c38))
        · refine aw_c (v := -1) rfl (by decide) ?_
          refine aw rfl rfl ?_
          exact aw_iret rfl rfl (by
                have hlt := fun d => nthF_lt (P := ftP T (lwf W) TD n) (x := x) (4 ^ n) 0 0 d
                revert c38 q hlt; cases nthF (ftP T (lwf W) TD n) x (4 ^ n) 0 0 with
                | some d => intro c38 q hlt; exact absurd (nI_pos' (by have := hlt d rfl; omega)) q
                | none => intro q _ _; exact q _ _ _ _ _ _)
      · refine aw_c (v := -1) rfl (by decide) ?_
        refine aw rfl rfl ?_
        refine aw rfl rfl ?_
        refine aw rfl rfl ?_
        exact aw_iret rfl rfl (by rw [if_pos c28] at q; rw [c28, nthF_m1 _ _ _ (by omega), n_mm]; exact q _ _ _ _ _ _)
    · refine aw_c (v := -1) rfl (by decide) ?_
      exact aw_iret rfl rfl (by rw [if_pos (Int32.not_le.mp c14)] at q; exact q _ _ _ _ _ _)
  · refine aw_eq rfl (fun _ => ?_) (fun c => absurd (by decide) c)
    refine aw_c (v := -1) rfl (by decide) ?_
    exact aw_iret rfl rfl (by rw [sp_out p] at q; exact q _ _ _ _ _ _)
end M1
