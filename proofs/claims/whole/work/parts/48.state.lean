/-! ===== the reference's state as a whole; often, tell, forget, hold, restore, place, feed, back ===== -/
theorem aw_incc {d L M pc nx a b : Nat} {ls ls' : List (Option Value)} {st : List Value} {h : am_H} {Q : Option Value → am_H → Prop} {j : Nat} {n : Int} {x c y : Int32} (hf : am_at (am_P M).2.2.2 pc = some (.iinc j n, nx, a, b)) (hg : am_get ls a = some (.int x)) (hc : Int32.ofInt n = c) (hy : x + c = y) (hl : am_st1 ls a (.int y) = ls') (k : AW am_P d L M nx ls' st h Q) : AW am_P d L M pc ls st h Q := by
  subst hy
  exact aw_inc hf hg hc hl k
def SC (T : Sd) (c : Nat) (S : Nat → Nat) : Prop := SG T S ∧ S 4 ≤ c ∧ S 5 ≤ c ∧ S 2 + S 3 ≤ T.1 4
def HR (T : Sd) (k : Mk) (c u : Nat) (P : Nat → Nat → Nat) : Prop := u ≤ 50 ∧ k.1 58 = nI u ∧ ∀ i, i < u → NR T (fun j => k.2.1 59 (10 * i + j)) (P i) ∧ SC T c (P i)
def SLR (T : Sd) (k : Mk) (c : Nat) (hd : Nat → Bool) (Z : Nat → Nat → Nat) : Prop := ∀ s, s < 3 → k.2.1 68 s = bI (hd s) ∧ (hd s = true → NR T (fun j => k.2.1 69 (10 * s + j)) (Z s) ∧ SC T c (Z s))
def TPR (k : Mk) (nt : Nat) (tp : Nat → Int32) : Prop := nt ≤ 2000 ∧ k.1 2 = nI nt ∧ ∀ i, i < nt → k.2.1 1 i = tp i
def n_keys : List Int64 := [13550, 3210670, 223166, 79, 409469, 2486801, 370000, 60283, 10502357, 95840554, 6570631, 10656676, 377761, 249, 399641, 107681, 778957, 16308991, 118913, 385418, 12387257, 158683, 275356804]
def KY (k : Mk) : Prop := ∀ i, i < 23 → k.2.2 9 i = n_keys.getD i 0
/-- all that the reference holds between two calls -/
def MS (k : Mk) (T : Sd) (W : Nat → Lw) (S : Nat → Nat) (u : Nat) (P : Nat → Nat → Nat) (td : Nat) (TD : Nat → Nat) (hd : Nat → Bool) (Z : Nat → Nat → Nat) (nt : Nat) (tp : Nat → Int32) (pc : Int32) (c : Nat) : Prop := (∃ lv, MR k lv T W) ∧ GS T ∧ NR T (k.2.1 53) S ∧ SC T c S ∧ HR T k c u P ∧ TDR T k td TD ∧ SLR T k c hd Z ∧ TPR k nt tp ∧ k.1 17 = pc ∧ KY k ∧ c ≤ 1000
theorem lw_in_congr {k k' : Mk} (h : ∀ i, 40 ≤ i → i ≤ 47 → k'.2.1 i = k.2.1 i) : ∀ (w : Lw) (b : Nat), lw_in k b w → lw_in k' b w := by
  have e40 := h 40 (by decide) (by decide)
  have e41 := h 41 (by decide) (by decide)
  have e42 := h 42 (by decide) (by decide)
  have e43 := h 43 (by decide) (by decide)
  have e44 := h 44 (by decide) (by decide)
  have e46 := h 46 (by decide) (by decide)
  have e47 := h 47 (by decide) (by decide)
  intro w
  induction w with
  | nil => intro b _; trivial
  | cons z t ih =>
    intro b h
    obtain ⟨z1, e⟩ := z
    cases z1 with
    | none =>
      show k'.2.1 40 b = nI 0 ∧ (∃ p : Nat, k'.2.1 43 b = nI p ∧ k'.2.1 44 b = nI (p + e.length) ∧ ex_in (k'.2.1 46) (k'.2.1 47) p e ∧ p + e.length ≤ 840) ∧ ex_wf e 0 ∧ lw_in k' (b + 1) t
      rw [e40, e43, e44, e46, e47]
      exact ⟨h.1, h.2.1, h.2.2.1, ih _ h.2.2.2⟩
    | some w =>
      show k'.2.1 40 b = nI 1 ∧ (∃ p : Nat, k'.2.1 41 b = nI p ∧ k'.2.1 42 b = nI (p + w.1.length) ∧ k'.2.1 43 b = nI (p + w.1.length + w.2.length) ∧ k'.2.1 44 b = nI (p + w.1.length + w.2.length + e.length) ∧ ex_in (k'.2.1 46) (k'.2.1 47) p w.1 ∧ ex_in (k'.2.1 46) (k'.2.1 47) (p + w.1.length) w.2 ∧ ex_in (k'.2.1 46) (k'.2.1 47) (p + w.1.length + w.2.length) e ∧ p + w.1.length + w.2.length + e.length ≤ 840) ∧ ex_wf w.1 0 ∧ ex_wf w.2 0 ∧ ex_wf e 0 ∧ lw_in k' (b + 1) t
      rw [e40, e41, e42, e43, e44, e46, e47]
      exact ⟨h.1, h.2.1, h.2.2.1, h.2.2.2.1, h.2.2.2.2.1, ih _ h.2.2.2.2.2⟩
theorem lw_i2_congr {l9 h9 : Nat} {k k' : Mk} (h : ∀ i, 40 ≤ i → i ≤ 47 → k'.2.1 i = k.2.1 i) : ∀ (w : Lw) (b : Nat), lw_i2 l9 h9 k b w → lw_i2 l9 h9 k' b w := by
  have e40 := h 40 (by decide) (by decide)
  have e41 := h 41 (by decide) (by decide)
  have e42 := h 42 (by decide) (by decide)
  have e43 := h 43 (by decide) (by decide)
  have e44 := h 44 (by decide) (by decide)
  have e46 := h 46 (by decide) (by decide)
  have e47 := h 47 (by decide) (by decide)
  intro w
  induction w with
  | nil => intro b _; trivial
  | cons z t ih =>
    intro b h
    obtain ⟨z1, e⟩ := z
    cases z1 with
    | none =>
      show k'.2.1 40 b = nI 0 ∧ (∃ p : Nat, l9 ≤ p ∧ k'.2.1 43 b = nI p ∧ k'.2.1 44 b = nI (p + e.length) ∧ ex_in (k'.2.1 46) (k'.2.1 47) p e ∧ p + e.length ≤ h9) ∧ ex_wf e 0 ∧ lw_i2 l9 h9 k' (b + 1) t
      rw [e40, e43, e44, e46, e47]
      exact ⟨h.1, h.2.1, h.2.2.1, ih _ h.2.2.2⟩
    | some w =>
      show k'.2.1 40 b = nI 1 ∧ (∃ p : Nat, l9 ≤ p ∧ k'.2.1 41 b = nI p ∧ k'.2.1 42 b = nI (p + w.1.length) ∧ k'.2.1 43 b = nI (p + w.1.length + w.2.length) ∧ k'.2.1 44 b = nI (p + w.1.length + w.2.length + e.length) ∧ ex_in (k'.2.1 46) (k'.2.1 47) p w.1 ∧ ex_in (k'.2.1 46) (k'.2.1 47) (p + w.1.length) w.2 ∧ ex_in (k'.2.1 46) (k'.2.1 47) (p + w.1.length + w.2.length) e ∧ p + w.1.length + w.2.length + e.length ≤ h9) ∧ ex_wf w.1 0 ∧ ex_wf w.2 0 ∧ ex_wf e 0 ∧ lw_i2 l9 h9 k' (b + 1) t
      rw [e40, e41, e42, e43, e44, e46, e47]
      exact ⟨h.1, h.2.1, h.2.2.1, h.2.2.2.1, h.2.2.2.2.1, ih _ h.2.2.2.2.2⟩
theorem MR.congr {k k' : Mk} {lv : Nat} {T : Sd} {W : Nat → Lw} (hM : MR k lv T W) (h18 : k'.1 18 = k.1 18) (h : ∀ i, 22 ≤ i → i ≤ 47 → k'.2.1 i = k.2.1 i) : MR k' lv T W := by
  have e := fun i h1 h2 => h i h1 h2
  unfold MR at hM ⊢
  rw [h18, e 22 (by decide) (by decide), e 23 (by decide) (by decide), e 24 (by decide) (by decide), e 25 (by decide) (by decide), e 26 (by decide) (by decide), e 27 (by decide) (by decide), e 28 (by decide) (by decide), e 29 (by decide) (by decide), e 30 (by decide) (by decide), e 31 (by decide) (by decide), e 32 (by decide) (by decide), e 33 (by decide) (by decide), e 34 (by decide) (by decide), e 35 (by decide) (by decide), e 36 (by decide) (by decide), e 37 (by decide) (by decide), e 38 (by decide) (by decide)]
  obtain ⟨h0, h1, h2, h3, h4, h5, h6, h7, h8, h9, h10, h11, h12, h13⟩ := hM
  refine ⟨h0, h1, h2, h3, h4, h5, h6, h7, h8, h9, h10, h11, h12, fun i hi => ?_⟩
  obtain ⟨b, z1, z2, z3, z4, z5, z7⟩ := h13 i hi
  exact ⟨b, z1, z2, lw_in_congr (fun i h1 h2 => h i (by omega) h2) _ _ z3, z4, z5, lw_i2_congr (fun i h1 h2 => h i (by omega) h2) _ _ z7⟩
theorem SC.mono {T : Sd} {c c' : Nat} {S : Nat → Nat} (h : SC T c S) (hc : c ≤ c') : SC T c' S := ⟨h.1, by have := h.2.1; omega, by have := h.2.2.1; omega, h.2.2.2⟩
/-- the fields, the arrays that a call changes -/
def KS (k k' : Mk) (I J : List Nat) : Prop := (∀ n, ¬ n ∈ I → k'.1 n = k.1 n) ∧ (∀ n, ¬ n ∈ J → k'.2.1 n = k.2.1 n) ∧ k'.2.2 = k.2.2
section M1
variable {g : am_H} {k : Mk} {v pl : Nat → Int32} {br lo : Int32} {c ct pr pt cm bf bt : Nat → Int32}
variable {lv : Nat} {T : Sd} {W : Nat → Lw}
variable {S : Nat → Nat} {u td nt cc : Nat} {P Z : Nat → Nat → Nat} {TD : Nat → Nat} {hd : Nat → Bool} {tp : Nat → Int32} {pc : Int32}
theorem MS.keep {k' : Mk} {I J : List Nat} (hX : MS k T W S u P td TD hd Z nt tp pc cc) (hk : KS k k' I J) (h18 : ¬ 18 ∈ I) (hJ : ∀ i, 22 ≤ i → i ≤ 47 → ¬ i ∈ J) : (∃ lv, MR k' lv T W) ∧ GS T ∧ KY k' := by
  obtain ⟨⟨lv, hM⟩, hG, _, _, _, _, _, _, _, hKY, _⟩ := hX
  exact ⟨⟨lv, hM.congr (hk.1 18 h18) (fun i h1 h2 => hk.2.1 i (hJ i h1 h2))⟩, hG, fun i hi => by rw [hk.2.2]; exact hKY i hi⟩
theorem HR.keep {k' : Mk} {I J : List Nat} (h : HR T k cc u P) (hk : KS k k' I J) (h1 : ¬ 58 ∈ I) (h2 : ¬ 59 ∈ J) : HR T k' cc u P := by
  unfold HR
  rw [hk.1 58 h1, hk.2.1 59 h2]
  exact h
theorem TDR.keep {k' : Mk} {I J : List Nat} (h : TDR T k td TD) (hk : KS k k' I J) (h1 : ¬ 63 ∈ I) (h2 : ¬ 64 ∈ J) (h3 : ¬ 65 ∈ J) : TDR T k' td TD := by
  unfold TDR
  rw [hk.1 63 h1, hk.2.1 64 h2, hk.2.1 65 h3]
  exact h
theorem SLR.keep {k' : Mk} {I J : List Nat} (h : SLR T k cc hd Z) (hk : KS k k' I J) (h1 : ¬ 68 ∈ J) (h2 : ¬ 69 ∈ J) : SLR T k' cc hd Z := by
  unfold SLR
  rw [hk.2.1 68 h1, hk.2.1 69 h2]
  exact h
theorem TPR.keep {k' : Mk} {I J : List Nat} (h : TPR k nt tp) (hk : KS k k' I J) (h1 : ¬ 2 ∈ I) (h2 : ¬ 1 ∈ J) : TPR k' nt tp := by
  unfold TPR
  rw [hk.1 2 h1, hk.2.1 1 h2]
  exact h
theorem MS.tape {k' : Mk} {nt' : Nat} {tp' : Nat → Int32} (hX : MS k T W S u P td TD hd Z nt tp pc cc) (hk : KS k k' [2] [1]) (ht : TPR k' nt' tp') : MS k' T W S u P td TD hd Z nt' tp' pc cc := by
  have h0 := hX.keep hk (by decide) (fun i h1 h2 => by simp; omega)
  obtain ⟨_, hG, hN, hSC, hH, hT, hL, hA, hpc, hKY, hcc⟩ := hX
  exact ⟨h0.1, hG, by rw [hk.2.1 53 (by decide)]; exact hN, hSC, hH.keep hk (by decide) (by decide), hT.keep hk (by decide) (by decide) (by decide), hL.keep hk (by decide) (by decide), ht, by rw [hk.1 17 (by decide)]; exact hpc, h0.2.2, hcc⟩
theorem ks1 {i : Nat} {x : Int32} : KS k (va_up k.1 i x, k.2.1, k.2.2) [i] [] := ⟨fun n h => vu_ot (by simpa using h), fun _ _ => rfl, rfl⟩
theorem ks2 {i : Nat} {f : Nat → Int32} : KS k (k.1, va_up k.2.1 i f, k.2.2) [] [i] := ⟨fun _ _ => rfl, fun n h => vu_ot (by simpa using h), rfl⟩
theorem KS.tr {k1 k2 : Mk} {I J I1 J1 : List Nat} (h : KS k k1 I J) (h1 : KS k1 k2 I1 J1) : KS k k2 (I ++ I1) (J ++ J1) := ⟨fun n hn => (h1.1 n (fun z => hn (List.mem_append.mpr (Or.inr z)))).trans (h.1 n (fun z => hn (List.mem_append.mpr (Or.inl z)))), fun n hn => (h1.2.1 n (fun z => hn (List.mem_append.mpr (Or.inr z)))).trans (h.2.1 n (fun z => hn (List.mem_append.mpr (Or.inl z)))), h1.2.2.trans h.2.2⟩
theorem KS.sub {k1 : Mk} {I J I1 J1 : List Nat} (h : KS k k1 I J) (h1 : ∀ n, n ∈ I → n ∈ I1) (h2 : ∀ n, n ∈ J → n ∈ J1) : KS k k1 I1 J1 := ⟨fun n hn => h.1 n (fun z => hn (h1 n z)), fun n hn => h.2.1 n (fun z => hn (h2 n z)), h.2.2⟩
theorem c_fit2 {Q : Option Value → am_H → Prop} (hM : MR k lv T W) (hG : GS T) (hT : TDR T k td TD) {kk : Nat} {x : Int32} (hk : kk ≤ td) (q1 : ∀ d, nthF (ftP T (lwf W) TD kk) x (4 ^ kk) 0 0 = some d → ∀ v pl br lo bf bt, Q (some (.int (nI d))) (mh g k v pl br lo c ct pr pt cm bf bt)) (q0 : nthF (ftP T (lwf W) TD kk) x (4 ^ kk) 0 0 = none → ∀ v pl br lo bf bt, Q (some (.int (-1 - nI (ctN (ftP T (lwf W) TD kk) (4 ^ kk))))) (mh g k v pl br lo c ct pr pt cm bf bt)) : AC am_P 6 160 286 [.ref 121, .int (nI kk), .int x] (mh g k v pl br lo c ct pr pt cm bf bt) Q := by
  refine c_X11_fitting hM hG hT hk (fun v pl br lo bf bt => ?_)
  cases e : nthF (ftP T (lwf W) TD kk) x (4 ^ kk) 0 0 with
  | some d => exact q1 d e _ _ _ _ _ _
  | none => exact q0 e _ _ _ _ _ _
theorem c_X11_often {Q : Option Value → am_H → Prop} (hM : MR k lv T W) (hG : GS T) (hT : TDR T k td TD) {y x : Int32} (q : ∀ v pl br lo bf bt, Q (some (.int (a_often T (lwf W) TD td y x))) (mh g k v pl br lo c ct pr pt cm bf bt)) : AC am_P 7 184 289 [.ref 121, .int y, .int x] (mh g k v pl br lo c ct pr pt cm bf bt) Q := by
  refine AC.of (ls := [_, _, _, _]) rfl ?_
  have hM0 := hM
  have hG0 := hG
  obtain ⟨m0, m1, mr, mw, mf, mk, mli, mt, ms, msq, moc, mwy, msp, mlw⟩ := hM
  obtain ⟨⟨g0, g0x⟩, ⟨g1, g1x⟩, ⟨g2, g2x⟩, ⟨g3, g3x⟩, g4, ⟨g5, g5x⟩, g6, gsq, goc, gwt, gsp, gfr⟩ := hG
  have hT0 := hT
  obtain ⟨t5, t63, tin⟩ := hT
  unfold a_often at q
  refine aw rfl rfl ?_
  refine aw_c (v := nI 0) rfl (by decide) ?_
  refine aw rfl rfl ?_
  refine aw_getfE rfl mg_121 rfl (congrArg Value.int t63) ?_
  refine aw_cs (d1 := 0) (L1 := 0) rfl rfl (by decide) (by decide) (Nat.le_of_ble_eq_true rfl) (c_X11_in (fun p1 p2 => ?_) (fun p => ?_))
  · refine aw_eq rfl (fun c => absurd c (by decide)) (fun _ => ?_)
    obtain ⟨n, rfl, _, hn⟩ := n_of3 p1 p2 (by omega) (by decide)
    rw [sp_in (Nat.zero_le _) hn (by omega)] at q
    have h44 := p4_le (show n ≤ 5 by omega)
    have hct := ctN_le (P := ftP T (lwf W) TD n) (4 ^ n)
    refine aw rfl rfl ?_
    refine aw_ge rfl (fun c13 => ?_) (fun c13 => ?_)
    · rw [if_neg (Int32.not_lt.mpr c13)] at q
      refine aw rfl rfl ?_
      refine aw rfl rfl ?_
      refine aw rfl rfl ?_
      refine aw_cv (d1 := 6) (L1 := 160) rfl rfl mg_121 rfl rfl (by decide) (by decide) (Nat.le_of_ble_eq_true rfl) (c_fit2 hM0 hG0 hT0 hn (fun d hd v pl br lo bf bt => ?_) (fun hd v pl br lo bf bt => ?_))
      · have hd1 : d < 4 ^ n := by have := nthF_lt _ _ _ _ hd; omega
        refine aw_ist (ls' := [_, _, _, _]) rfl rfl ?_
        refine aw rfl rfl ?_
        refine aw_gen rfl ?_
        refine aw rfl rfl ?_
        refine aw rfl rfl ?_
        refine aw rfl rfl ?_
        refine aw_cv (d1 := 5) (L1 := 135) rfl rfl mg_121 rfl rfl (by decide) (by decide) (Nat.le_of_ble_eq_true rfl) (c_X11_oftenBy hM0 hG0 hT0 hn hd1 (fun v pl br lo bf bt => ?_))
        exact aw_iret rfl rfl (by rw [hd] at q; exact q _ _ _ _ _ _)
      · refine aw_ist (ls' := [_, _, _, _]) rfl rfl ?_
        refine aw rfl rfl ?_
        refine aw_ge rfl (fun c26 => absurd (n_mneg (by omega)) (Int32.not_lt.mpr c26)) (fun c26 => ?_)
        refine aw_c (v := -1) rfl (by decide) ?_
        refine aw rfl rfl ?_
        exact aw_iret rfl rfl (by rw [hd] at q; exact q _ _ _ _ _ _)
    · refine aw_c (v := -1) rfl (by decide) ?_
      exact aw_iret rfl rfl (by rw [if_pos (Int32.not_le.mp c13)] at q; exact q _ _ _ _ _ _)
  · refine aw_eq rfl (fun _ => ?_) (fun c => absurd (by decide) c)
    refine aw_c (v := -1) rfl (by decide) ?_
    exact aw_iret rfl rfl (by rw [sp_out p] at q; exact q _ _ _ _ _ _)
def plB (T : Sd) (x y : Int32) : Prop := (nI 0 ≤ x ∧ x < nI (T.1 0)) ∧ nI 0 ≤ y ∧ y < nI (T.1 1)
def sqXY (x y : Int32) : Nat := y.toNatClampNeg * 8 + x.toNatClampNeg
end M1
