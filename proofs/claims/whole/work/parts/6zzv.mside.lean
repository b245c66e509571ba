/-! ===== the reference's side: what was read is a street; the other side stays; a text's tokens ===== -/
theorem lw_i2_in {lo hi : Nat} {k : Mk} (hh : hi ≤ 840) : ∀ (w : Lw) (b : Nat), lw_i2 lo hi k b w → lw_in k b w := by
  intro w
  induction w with
  | nil => intro b _; trivial
  | cons z t ih =>
    obtain ⟨z1, e⟩ := z
    intro b h
    cases z1 with
    | none =>
      obtain ⟨h1, ⟨p, hp, h2, h3, h4, h5⟩, h6, h7⟩ := h
      exact ⟨h1, ⟨p, h2, h3, h4, by omega⟩, h6, ih (b + 1) h7⟩
    | some w =>
      obtain ⟨h1, ⟨p, hp, h2, h3, h4, h5, h6, h7, h8, h9⟩, g1, g2, g3, g4⟩ := h
      exact ⟨h1, ⟨p, h2, h3, h4, h5, h6, h7, h8, by omega⟩, g1, g2, g3, ih (b + 1) g4⟩
theorem lw_i2_rg {lo hi hi2 b0 bb : Nat} {k k' : Mk} (ha : ∀ j, 40 ≤ j → j ≤ 44 → ∀ i, b0 ≤ i → i < bb → k'.2.1 j i = k.2.1 j i) (hc : ∀ i, lo ≤ i → i < hi → k'.2.1 46 i = k.2.1 46 i ∧ k'.2.1 47 i = k.2.1 47 i) (hh : hi ≤ hi2) : ∀ (w : Lw) (b : Nat), b0 ≤ b → b + w.length ≤ bb → lw_i2 lo hi k b w → lw_i2 lo hi2 k' b w := by
  intro w
  induction w with
  | nil => intro b _ _ _; trivial
  | cons z t ih =>
    obtain ⟨z1, e⟩ := z
    intro b hb0 hl h
    have hL : ((z1, e) :: t).length = t.length + 1 := rfl
    have hr : ∀ j, 40 ≤ j → j ≤ 44 → k'.2.1 j b = k.2.1 j b := fun j h4 h5 => ha j h4 h5 b hb0 (by omega)
    cases z1 with
    | none =>
      obtain ⟨h1, ⟨p, hp, h2, h3, h4, h5⟩, h6, h7⟩ := h
      refine ⟨by rw [hr 40 (by decide) (by decide)]; exact h1, ⟨p, hp, by rw [hr 43 (by decide) (by decide)]; exact h2, by rw [hr 44 (by decide) (by decide)]; exact h3, ex_in_c _ _ (fun i _ hi => hc i (by omega) (by omega)) h4, by omega⟩, h6, ih (b + 1) (by omega) (by omega) h7⟩
    | some w =>
      obtain ⟨h1, ⟨p, hp, h2, h3, h4, h5, h6, h7, h8, h9⟩, g1, g2, g3, g4⟩ := h
      refine ⟨by rw [hr 40 (by decide) (by decide)]; exact h1, ⟨p, hp, by rw [hr 41 (by decide) (by decide)]; exact h2, by rw [hr 42 (by decide) (by decide)]; exact h3, by rw [hr 43 (by decide) (by decide)]; exact h4, by rw [hr 44 (by decide) (by decide)]; exact h5, ex_in_c _ _ (fun i _ hi => hc i (by omega) (by omega)) h6, ex_in_c _ _ (fun i _ hi => hc i (by omega) (by omega)) h7, ex_in_c _ _ (fun i _ hi => hc i (by omega) (by omega)) h8, by omega⟩, g1, g2, g3, ih (b + 1) (by omega) (by omega) g4⟩
theorem MR.other {k k' : Mk} {lv : Nat} {T : Sd} {W : Nat → Lw} (h : MR k lv T W) (hG : GS T) (h18 : k'.1 18 = k.1 18) (hS : SDf lv k k') : MR k' lv T W := by
  obtain ⟨a0, a1, a2, a3, a4, a5, a6, a7, a8, a9, b0, b1, b2, b3⟩ := h
  obtain ⟨⟨g0, g0x⟩, ⟨g1, g1x⟩, ⟨g2, g2x⟩, ⟨g3, g3x⟩, g4, ⟨g5, g5x⟩, g6, gsq, goc, gwt, gsp, gfr⟩ := hG
  have h1 : ∀ j, 22 ≤ j → j ≤ 47 → wd9 j = 1 → k'.2.1 j lv = k.2.1 j lv := fun j h2 h4 e => hS j h2 h4 lv (by rw [e]; omega) (by rw [e]; omega)
  refine ⟨a0, by rw [h18]; exact a1, by rw [h1 22 (by decide) (by decide) rfl]; exact a2, by rw [h1 23 (by decide) (by decide) rfl]; exact a3, by rw [h1 25 (by decide) (by decide) rfl]; exact a4, by rw [h1 26 (by decide) (by decide) rfl]; exact a5, by rw [h1 34 (by decide) (by decide) rfl]; exact a6, by rw [h1 35 (by decide) (by decide) rfl]; exact a7, by rw [h1 36 (by decide) (by decide) rfl]; exact a8, fun a e ha he => ?_, fun j hj => ?_, fun j o hj ho => ?_, fun i hi => ?_, fun i hi => ?_⟩
  · rw [hS 24 (by decide) (by decide) _ (by show 32 * lv ≤ _; omega) (by show _ < 32 * lv + 32; omega)]; exact a9 a e ha he
  · rw [hS 27 (by decide) (by decide) _ (by show 4 * lv ≤ _; omega) (by show _ < 4 * lv + 4; omega)]; exact b0 j hj
  · have hoc := (goc j hj).2.2.1
    have hq : ∀ n, 28 ≤ n → n ≤ 31 → k'.2.1 n (6 * (4 * lv + j) + o) = k.2.1 n (6 * (4 * lv + j) + o) := fun n h2 h4 => by
      have hw : wd9 n = 24 := by unfold wd9; rw [if_neg (by omega), if_neg (by omega), if_pos (by omega)]
      exact hS n (by omega) (by omega) _ (by rw [hw]; omega) (by rw [hw]; omega)
    rw [hq 28 (by decide) (by decide), hq 29 (by decide) (by decide), hq 30 (by decide) (by decide), hq 31 (by decide) (by decide)]
    exact b1 j o hj ho
  · rw [hS 32 (by decide) (by decide) _ (by show 3 * lv ≤ _; omega) (by show _ < 3 * lv + 3; omega), hS 33 (by decide) (by decide) _ (by show 3 * lv ≤ _; omega) (by show _ < 3 * lv + 3; omega)]
    exact b2 i hi
  · obtain ⟨b, c1, c2, c3, c4, c5, c6⟩ := b3 i hi
    have e7 := hS 37 (by decide) (by decide) (3 * lv + i) (by show 3 * lv ≤ _; omega) (by show _ < 3 * lv + 3; omega)
    have e8 := hS 38 (by decide) (by decide) (3 * lv + i) (by show 3 * lv ≤ _; omega) (by show _ < 3 * lv + 3; omega)
    rw [e7, e8]
    rcases c5 with c5 | c5
    · exact ⟨b, c1, c2, by rw [c5]; trivial, c4, Or.inl c5, by rw [c5]; trivial⟩
    · have c6' : lw_i2 (420 * lv) (420 * lv + 420) k' b (W i) := lw_i2_rg (b0 := 130 * lv) (bb := 130 * lv + 130) (fun j h4 h5 i2 x y => by
        have hw : wd9 j = 130 := by
          unfold wd9; rw [if_neg (by omega), if_neg (by omega), if_neg (by omega), if_neg (by omega), if_pos (by omega)]
        exact hS j (by omega) (by omega) i2 (by rw [hw]; omega) (by rw [hw]; omega)) (fun i2 x y => ⟨hS 46 (by decide) (by decide) i2 (by show 420 * lv ≤ _; omega) (by show _ < 420 * lv + 420; omega), hS 47 (by decide) (by decide) i2 (by show 420 * lv ≤ _; omega) (by show _ < 420 * lv + 420; omega)⟩) (Nat.le_refl _) _ _ c5.1 c5.2 c6
      exact ⟨b, c1, c2, lw_i2_in (by omega) _ _ c6', c4, Or.inr c5, c6'⟩
theorem osM_at {k : Mk} : ∀ (os : List OT) (b : Nat), osM k b os → ∀ i, i < os.length → otM k (b + i) (os.getD i (0, 0, false, 0, 0)) := by
  intro os
  induction os with
  | nil => intro b _ i hi; exact absurd hi (Nat.not_lt_zero i)
  | cons o r ih =>
    intro b h i hi
    obtain ⟨h1, h2⟩ := h
    cases i with
    | zero => exact h1
    | succ i =>
      have := ih (b + 1) h2 i (by have : (o :: r).length = r.length + 1 := rfl; omega)
      rw [show b + (i + 1) = b + 1 + i by omega]
      exact this
theorem MD.mr {k : Mk} {sd t b cn : Nat} {T : Sd} {u : Ua} {K : Ck} {C : List Int32} {D : Dt} (hs : sd < 2) (h18 : k.1 18 = nI sd) (h : MD sd k D t b cn) (ht : t ≤ 400) (hT : CDt T u K C D True) (hG : GS T) : MR k sd T D.2.2.2.2.2 := by
  obtain ⟨⟨p1, p2, p3, p4, p5, p6⟩, ⟨q1, q2, q3, q4⟩, ⟨r1, r2, r3, r4⟩, w1, w2, w3, w4, w5, w6, w7, w8⟩ := h
  obtain ⟨⟨c1, c2, c3, c4, c5, c6⟩, ⟨d1, d2, d3, d4⟩, _, e1, e2, e3, e4, e5⟩ := hT
  obtain ⟨e5, e6⟩ := e5 trivial
  have hr1 := hG.2.1.1
  have hne : ¬ D.1 = [] := fun w => by rw [w] at e1; have e1 : T.1 1 = 0 := e1; omega
  refine ⟨hs, h18, by rw [e1]; exact r1, by rw [e4 hne]; exact r3, by rw [c1]; exact p1, by rw [d1]; exact q1, by rw [c2]; exact p2, by rw [c3]; exact p3, by rw [c4]; exact p4, fun a e ha he => ?_, fun j hj => ?_, fun j o hj ho => ?_, fun i hi => ?_, fun i hi => ?_⟩
  · obtain ⟨f1, f2, f3⟩ := e5 e (by omega)
    rw [f3 a ha]
    exact (r4 e (by omega)).2 a (by omega)
  · have hj : j < D.2.1.length := by omega
    rw [(q4 j hj).2.2.2.1, (d4 j hj).2.2.2.1]
  · have hj : j < D.2.1.length := by omega
    obtain ⟨m1, m2, m3, m4, m5, m6⟩ := q4 j hj
    obtain ⟨n1, n2, n3, n4, n5, n6⟩ := d4 j hj
    have ho : o < (D.2.1.getD j ([], [])).2.length := by
      unfold oc at ho
      rw [n4, nI_clamp (by omega)] at ho
      exact ho
    obtain ⟨x1, x2, x3, x4⟩ := osM_at _ _ m6 o ho
    obtain ⟨y1, y2, y3, y4⟩ := osR_at _ _ n6 o ho
    exact ⟨by rw [x1, y1], by rw [x2, y2], by rw [x3, y3], by rw [x4, y4]⟩
  · exact ⟨by rw [p5 i hi, c5 i hi], by rw [p6 i hi, c6 i hi]⟩
  · rcases w8 i hi with ⟨z1, z2, z3⟩ | ⟨b', z1, z2, z3, z4, z5⟩
    · rw [z1]
      exact ⟨0, z2, z3, trivial, by decide, Or.inl rfl, trivial⟩
    · have z6 : lw_i2 (420 * sd) (420 * sd + 420) k b' (D.2.2.2.2.2 i) := lw_i2_cr (bb := b' + (D.2.2.2.2.2 i).length) (fun _ _ _ _ _ => rfl) (fun _ _ => ⟨rfl, rfl⟩) (by omega) _ _ (Nat.le_refl _) z5
      exact ⟨b', z1, z2, lw_i2_in (by omega) _ _ z6, by omega, Or.inr ⟨z3, by omega⟩, z6⟩
theorem MD.nr {k : Mk} {sd t b cn : Nat} {T : Sd} {u : Ua} {K : Ck} {C : List Int32} {D : Dt} (h : MD sd k D t b cn) (hT : CDt T u K C D True) (hG : GS T) {f : Nat → Int32} (h0 : ∀ j, j < 3 → f j = k.2.1 32 (3 * sd + j)) (h3 : f 3 = k.2.1 34 sd) (h4 : ∀ j, 4 ≤ j → j < 10 → f j = nI 0) : NR T f (bgS T) := by
  obtain ⟨⟨p1, p2, p3, p4, p5, p6⟩, _⟩ := h
  obtain ⟨⟨c1, c2, c3, c4, c5, c6⟩, _⟩ := hT
  obtain ⟨⟨g0, g0x⟩, ⟨g1, g1x⟩, ⟨g2, g2x⟩, ⟨g3, g3x⟩, g4, ⟨g5, g5x⟩, g6, gsq, goc, gwt, gsp, gfr⟩ := hG
  obtain ⟨a, e, f9, ha, he, hf, i1, i2, i3, i4⟩ := gsp
  have ea : (T.2 6 0).toNatClampNeg = a := by rw [ha, nI_clamp (by omega)]
  have ee : (T.2 6 1).toNatClampNeg = e := by rw [he, nI_clamp (by omega)]
  have ef : (T.2 6 2).toNatClampNeg = f9 := by rw [hf, nI_clamp (by omega)]
  have s0 : bgS T 0 = e * 8 + a := by show (T.2 6 1).toNatClampNeg * 8 + (T.2 6 0).toNatClampNeg = _; rw [ea, ee]
  have s1 : bgS T 1 = f9 := ef
  have s6 : ¬ bgS T 6 = 2 := by
    show ¬ (bif hm T (((T.2 6 1).toNatClampNeg * 8 + (T.2 6 0).toNatClampNeg) * 3 + (T.2 6 2).toNatClampNeg) then 1 else 0) = 2
    cases hm T (((T.2 6 1).toNatClampNeg * 8 + (T.2 6 0).toNatClampNeg) * 3 + (T.2 6 2).toNatClampNeg) <;> decide
  have hq : ∀ i, i < 3 → f i = T.2 6 i := fun i hi => by rw [h0 i hi, p5 i hi, c5 i hi]
  unfold NR
  rw [s0, s1, if_neg s6]
  refine ⟨?_, ?_, ?_, ?_, h4 4 (by decide) (by decide), ?_, h4 6 (by decide) (by decide), h4 7 (by decide) (by decide), h4 8 (by decide) (by decide)⟩
  · rw [hq 0 (by decide), ha, show (e * 8 + a) % 8 = a by omega]
  · rw [hq 1 (by decide), he, show (e * 8 + a) / 8 = e by omega]
  · rw [hq 2 (by decide), hf]
  · rw [h3, p2, ← c2]; rfl
  · rw [h4 5 (by decide) (by decide)]
    show nI 0 = nI (0 * T.1 5)
    rw [Nat.zero_mul]
/-! the tokens of a text are those of its bytes -/
section T1
variable {x x' : Nat → Int32} {n : Nat}
theorem runF_cg {P : Int32 → Bool} (h : ∀ i, i < n → x' i = x i) : ∀ f i, runF P x' n f i = runF P x n f i := by
  intro f
  induction f with
  | zero => intro i; rfl
  | succ f ih =>
    intro i
    rw [runF, runF]
    by_cases hi : i < n
    · rw [h i hi, ih]
    · rw [if_neg (fun w => hi w.1), if_neg (fun w => hi w.1)]
theorem run_cg {P : Int32 → Bool} (h : ∀ i, i < n → x' i = x i) (i : Nat) : run P x' n i = run P x n i := runF_cg h _ _
theorem ltL_cg (h : ∀ i, i < n → x' i = x i) : ∀ m i, i + m ≤ n → ltL x' i m = ltL x i m := by
  intro m
  induction m with
  | zero => intro i _; rfl
  | succ m ih => intro i hi; rw [ltL, ltL, h i (by omega), ih (i + 1) (by omega)]
theorem dv_cg (h : ∀ i, i < n → x' i = x i) (i : Nat) : ∀ m, i + m ≤ n → dv x' i m = dv x i m := by
  intro m
  induction m with
  | zero => intro _; rfl
  | succ m ih => intro hi; rw [dv, dv, h (i + m) (by omega), ih (by omega)]
theorem lE_cg (h : ∀ i, i < n → x' i = x i) (i : Nat) : lE x' n i = lE x n i := by
  unfold lE
  rw [run_cg h, run_cg h]
  by_cases hi : n ≤ i
  · rw [if_pos hi, if_pos hi]
  · rw [if_neg hi, if_neg hi, h i (by omega)]
theorem lL_cg (h : ∀ i, i < n → x' i = x i) (i : Nat) : lL x' n i = lL x n i := by
  unfold lL
  rw [run_cg h]
  by_cases hi : i < n
  · have hh := run_hi (P := ltB) (x := x) (n := n) (i := i) (by omega)
    have hl := run_lo (P := ltB) (x := x) (n := n) (i := i)
    rw [h i hi, ltL_cg h _ _ (by omega)]
  · rw [if_neg (fun w => hi w.1), if_neg (fun w => hi w.1)]
theorem lK_cg (h : ∀ i, i < n → x' i = x i) (i : Nat) : lK x' n i = lK x n i := by
  unfold lK
  rw [run_cg h, lL_cg h]
  by_cases hi : n ≤ i
  · rw [if_pos hi, if_pos hi]
  · rw [if_neg hi, if_neg hi, h i (by omega)]
theorem lV_cg (h : ∀ i, i < n → x' i = x i) (i : Nat) (hn : i ≤ n) : lV x' n i = lV x n i := by
  unfold lV
  rw [run_cg h]
  by_cases hi : i < n
  · have hh := run_hi (P := dgB) (x := x) (n := n) (i := i) (by omega)
    have hl := run_lo (P := dgB) (x := x) (n := n) (i := i)
    rw [h i hi, dv_cg h i _ (by omega)]
  · rw [run_n (by omega), Nat.sub_self]
    have e : ∀ b : Prop, ∀ [Decidable b], ∀ y : Nat → Int32, (if b then dv y i 0 else 0) = 0 := fun b _ y => by split <;> rfl
    rw [e, e]
theorem ps9_cg (h : ∀ i, i < n → x' i = x i) : ∀ t, ps9 x' n t = ps9 x n t := by
  intro t
  induction t with
  | zero => exact run_cg h 0
  | succ t ih => rw [ps9, ps9, ih, lE_cg h, run_cg h]
theorem tkS_cg (h : ∀ i, i < n → x' i = x i) : tkS x' n = tkS x n := by
  unfold tkS
  have e1 : (fun t => lK x' n (ps9 x' n t)) = fun t => lK x n (ps9 x n t) := funext fun t => by rw [ps9_cg h, lK_cg h]
  have e2 : (fun t => ps9 x' n t) = fun t => ps9 x n t := funext fun t => ps9_cg h t
  have e3 : (fun t => lV x' n (ps9 x' n t)) = fun t => lV x n (ps9 x n t) := funext fun t => by rw [ps9_cg h, lV_cg h _ (ps_hi t)]
  have e4 : (fun t => lL x' n (ps9 x' n t)) = fun t => lL x n (ps9 x n t) := funext fun t => by rw [ps9_cg h, lL_cg h]
  rw [e1, e2, e3, e4]
end T1
