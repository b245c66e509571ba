/-! ===== the class's state as a whole; fractions; chances ===== -/
def PE (T : Sd) (K : Ck) (S : Nat → Nat) (u : Nat) (P : Nat → Nat → Nat) (td : Nat) (TD : Nat → Nat) (hd : Nat → Bool) (Z : Nat → Nat → Nat) (nt : Nat) (tp : Nat → Int32) (pc : Int32) : Prop := SRl (K.2.2.1 46) S ∧ PSr K u P ∧ (∀ s, s < 3 → K.2.2.1 (118 + s) 7 = bI (hd s) ∧ (hd s = true → SRl (K.2.2.1 (118 + s)) (Z s))) ∧ (td ≤ 5 ∧ K.1 25 = nI td ∧ ∀ i, i < td → K.2.1 114 i = nI (TD i) ∧ TD i < 32 ∧ TD i % 8 < T.1 0 ∧ TD i / 8 < T.1 1) ∧ (nt ≤ 2000 ∧ K.1 0 = nI nt ∧ ∀ i, i < nt → K.2.1 9 i = tp i) ∧ K.1 1 = pc
def CS (g : am_H) (T0 : Sd) (u0 : Ua) (T1 : Sd) (u1 : Ua) (K : Ck) (rf : Nat → Nat) (p : Nat) (T : Sd) (W : Nat → Lw) (S : Nat → Nat) (u : Nat) (P : Nat → Nat → Nat) (td : Nat) (TD : Nat → Nat) (hd : Nat → Bool) (Z : Nat → Nat → Nat) (nt : Nat) (tp : Nat → Int32) (pc : Int32) (cc : Nat) : Prop := CX p T (lwf W) T0 T1 g rf ∧ rf 1 = 35 - p ∧ (∃ no na lf, LLr T K no na lf) ∧ TB T (lwf W) g K ∧ FO T (lwf W) K rf ∧ PE T K S u P td TD hd Z nt tp pc ∧ SC T cc S ∧ (∀ i, i < u → SC T cc (P i)) ∧ (∀ s, s < 3 → hd s = true → SC T cc (Z s)) ∧ cc ≤ 1000
theorem PE.lk {T : Sd} {K K' : Ck} {S : Nat → Nat} {u td nt : Nat} {P Z : Nat → Nat → Nat} {TD : Nat → Nat} {hd : Nat → Bool} {tp : Nat → Int32} {pc : Int32} (h : PE T K S u P td TD hd Z nt tp pc) (hk : KLk K K') : PE T K' S u P td TD hd Z nt tp pc := by
  unfold PE PSr at h ⊢
  rw [hk.1 0 (by omega), hk.1 1 (by omega), hk.1 16 (by omega), hk.1 17 (by omega), hk.1 25 (by omega), hk.2.1 9 (by decide) (by decide) (by decide), hk.2.1 114 (by decide) (by decide) (by decide), hk.2.2.1]
  exact h
def ends : Nat → Nat → Nat → Prop
  | 0, _, b => b = 0
  | m + 1, a, b => b = 0 ∨ ends m b (a % b)
theorem ends_mono : ∀ m a b, ends m a b → ends (m + 1) a b := by
  intro m
  induction m with
  | zero => intro a b h; exact Or.inl h
  | succ m ih =>
    intro a b h
    rcases h with h | h
    · exact Or.inl h
    · exact Or.inr (ih _ _ h)
theorem ends_2 : ∀ k a b, b ≤ a → a < 2 ^ k → ends (2 * k) a b := by
  intro k
  induction k with
  | zero => intro a b h1 h2; show b = 0; simp at h2; omega
  | succ k ih =>
    intro a b h1 h2
    show ends (2 * k + 1 + 1) a b
    by_cases h0 : b = 0
    · exact Or.inl h0
    · refine Or.inr ?_
      by_cases h3 : a % b = 0
      · exact Or.inl h3
      · refine Or.inr (ih _ _ ?_ ?_)
        · exact Nat.le_of_lt (Nat.mod_lt _ (by omega))
        · have h4 := Nat.mod_lt a (show b > 0 by omega)
          have h5 := Nat.div_add_mod a b
          have h6 : 1 ≤ a / b := (Nat.one_le_div_iff (by omega)).mpr h1
          have h7 : b * 1 ≤ b * (a / b) := Nat.mul_le_mul_left _ h6
          rw [Nat.pow_succ] at h2
          omega
section C1
variable {g : am_H} {T0 T1 T : Sd} {u0 u1 : Ua} {K : Ck} {rf : Nat → Nat} {p : Nat} {S : Nat → Nat} {u td nt cc : Nat} {P Z : Nat → Nat → Nat} {TD : Nat → Nat} {hd : Nat → Bool} {tp : Nat → Int32} {pc : Int32} {W : Nat → Lw}
variable {no na : Nat} {lf : Nat → Nat}
theorem CS.cx (hC : CS g T0 u0 T1 u1 K rf p T W S u P td TD hd Z nt tp pc cc) : CX p T (lwf W) T0 T1 g rf := hC.1
theorem CS.st (hC : CS g T0 u0 T1 u1 K rf p T W S u P td TD hd Z nt tp pc cc) : SRl (K.2.2.1 46) S := hC.2.2.2.2.2.1.1
theorem CS.ps (hC : CS g T0 u0 T1 u1 K rf p T W S u P td TD hd Z nt tp pc cc) : PSr K u P := hC.2.2.2.2.2.1.2.1
theorem CS.sl (hC : CS g T0 u0 T1 u1 K rf p T W S u P td TD hd Z nt tp pc cc) : ∀ s, s < 3 → K.2.2.1 (118 + s) 7 = bI (hd s) ∧ (hd s = true → SRl (K.2.2.1 (118 + s)) (Z s)) := hC.2.2.2.2.2.1.2.2.1
theorem CS.tdr (hC : CS g T0 u0 T1 u1 K rf p T W S u P td TD hd Z nt tp pc cc) : td ≤ 5 ∧ K.1 25 = nI td ∧ ∀ i, i < td → K.2.1 114 i = nI (TD i) ∧ TD i < 32 ∧ TD i % 8 < T.1 0 ∧ TD i / 8 < T.1 1 := hC.2.2.2.2.2.1.2.2.2.1
theorem CS.ta (hC : CS g T0 u0 T1 u1 K rf p T W S u P td TD hd Z nt tp pc cc) : nt ≤ 2000 ∧ K.1 0 = nI nt ∧ ∀ i, i < nt → K.2.1 9 i = tp i := hC.2.2.2.2.2.1.2.2.2.2.1
theorem CS.pl (hC : CS g T0 u0 T1 u1 K rf p T W S u P td TD hd Z nt tp pc cc) : K.1 1 = pc := hC.2.2.2.2.2.1.2.2.2.2.2
theorem CS.sc (hC : CS g T0 u0 T1 u1 K rf p T W S u P td TD hd Z nt tp pc cc) : SG T S := hC.2.2.2.2.2.2.1.1
theorem CS.ua (hC : CS g T0 u0 T1 u1 K rf p T W S u P td TD hd Z nt tp pc cc) {v0 v1 : Ua} : CS g T0 v0 T1 v1 K rf p T W S u P td TD hd Z nt tp pc cc := hC
theorem l_gcd {h : am_H} {Q : Option Value → am_H → Prop} {x0 x1 : Int32} : ∀ m i a b (l5 : Option Value), ends m a b → i + m ≤ 64 → a < 2147483648 → b < 2147483648 → Q (some (.int (nI (Nat.gcd a b)))) h → AW am_P 0 0 158 7 [some (.int x0), some (.int x1), some (.int (nI a)), some (.int (nI b)), some (.int (nI i)), l5] [] h Q := by
  intro m
  induction m with
  | zero =>
    intro i a b l5 he hi ha hb q
    have he : b = 0 := he
    rw [he, Nat.gcd_zero_right] at q
    refine aw rfl rfl ?_
    refine aw_c (v := nI 64) rfl (by decide) ?_
    refine aw_igen rfl (fun c11 => ?_) (fun c11 => ?_)
    · refine aw rfl rfl ?_
      exact aw_iret rfl rfl q
    · refine aw rfl rfl ?_
      refine aw_eqn rfl (fun c15 => ?_) (fun c15 => by omega)
      refine aw rfl rfl ?_
      exact aw_iret rfl rfl q
  | succ m ih =>
    intro i a b l5 he hi ha hb q
    rcases he with he | he
    · rw [he, Nat.gcd_zero_right] at q
      refine aw rfl rfl ?_
      refine aw_c (v := nI 64) rfl (by decide) ?_
      refine aw_igen rfl (fun c11 => by omega) (fun c11 => ?_)
      refine aw rfl rfl ?_
      refine aw_eqn rfl (fun c15 => ?_) (fun c15 => by omega)
      refine aw rfl rfl ?_
      exact aw_iret rfl rfl q
    · by_cases h0 : b = 0
      · rw [h0, Nat.gcd_zero_right] at q
        refine aw rfl rfl ?_
        refine aw_c (v := nI 64) rfl (by decide) ?_
        refine aw_igen rfl (fun c11 => by omega) (fun c11 => ?_)
        refine aw rfl rfl ?_
        refine aw_eqn rfl (fun c15 => ?_) (fun c15 => by omega)
        refine aw rfl rfl ?_
        exact aw_iret rfl rfl q
      · have hm := Nat.mod_lt a (show b > 0 by omega)
        refine aw rfl rfl ?_
        refine aw_c (v := nI 64) rfl (by decide) ?_
        refine aw_igen rfl (fun c11 => by omega) (fun c11 => ?_)
        refine aw rfl rfl ?_
        refine aw_eqn rfl (fun c15 => by omega) (fun c15 => ?_)
        refine aw rfl rfl ?_
        refine aw rfl rfl ?_
        refine aw_remn rfl (by omega) (by omega) (by omega) ?_
        refine aw_ist (ls' := [_, _, _, _, _, _]) rfl rfl ?_
        refine aw rfl rfl ?_
        refine aw_ist (ls' := [_, _, _, _, _, _]) rfl rfl ?_
        refine aw rfl rfl ?_
        refine aw_ist (ls' := [_, _, _, _, _, _]) rfl rfl ?_
        refine aw_incn (c := 1) (ls' := [_, _, _, _, _, _]) rfl rfl (by decide) rfl ?_
        refine aw rfl rfl ?_
        exact ih (i + 1) b (a % b) _ he (by omega) hb (by omega) (by rw [show Nat.gcd b (a % b) = Nat.gcd a b by rw [Nat.gcd_comm a b, Nat.gcd_rec b a, Nat.gcd_comm]]; exact q)
theorem c_X10_fraction {h : am_H} {Q : Option Value → am_H → Prop} {a n : Nat} {b : Bool} (h6 : am_six h) (hn : n ≤ 10) (ha : a ≤ 6 ^ n) (q : Q (some (.int (nI (fr a (6 ^ n) b)))) h) : AC am_P 1 25 157 [.int (nI a), .int (nI n), .int (bI b)] h Q := by
  refine AC.of (ls := [_, _, _, _, _]) rfl ?_
  have h1 := p6_le hn
  have h2 := p6_pos n
  have hg := Nat.gcd_pos_of_pos_right a h2
  have hg2 := Nat.gcd_le_right a h2
  have hcm : Nat.gcd (6 ^ n) a = Nat.gcd a (6 ^ n) := Nat.gcd_comm _ _
  have hcd : AC am_P 0 0 158 [.int (nI (6 ^ n)), .int (nI a)] h (fun r h1 => r = some (.int (nI (Nat.gcd a (6 ^ n)))) ∧ h1 = h) := by
    refine AC.of (ls := [_, _, _, _, _, _]) rfl ?_
    refine aw rfl rfl ?_
    refine aw_ist (ls' := [_, _, _, _, _, _]) rfl rfl ?_
    refine aw rfl rfl ?_
    refine aw_ist (ls' := [_, _, _, _, _, _]) rfl rfl ?_
    refine aw_c (v := nI 0) rfl (by decide) ?_
    refine aw_ist (ls' := [_, _, _, _, _, _]) rfl rfl ?_
    exact l_gcd (2 * 27) 0 (6 ^ n) a _ (ends_2 27 _ _ ha (by omega)) (by decide) (by omega) (by omega) ⟨by rw [hcm], rfl⟩
  unfold fr at q
  cases b
  · skip
    refine aw rfl rfl ?_
    refine aw_cs (d1 := 0) (L1 := 0) rfl rfl (by decide) (by decide) (Nat.le_of_ble_eq_true rfl) (c_X10_sixesOf h6 hn ?_)
    refine aw_ist (ls' := [_, _, _, _, _]) rfl rfl ?_
    refine aw rfl rfl ?_
    refine aw rfl rfl ?_
    refine aw_cs (d1 := 0) (L1 := 0) rfl rfl (by decide) (by decide) (Nat.le_of_ble_eq_true rfl) (hcd.mono (fun r h1 hr => ?_))
    obtain ⟨rfl, rfl⟩ := hr
    refine (show AW _ _ _ _ _ _ (.int (nI (Nat.gcd a (6 ^ n))) :: _) _ _ from ?_)
    refine aw_ist (ls' := [_, _, _, _, _]) rfl rfl ?_
    refine aw rfl rfl ?_
    refine aw_nen rfl (fun c14 => ?_) (fun c14 => by omega)
    refine aw rfl rfl ?_
    refine aw_eq rfl (fun _ => ?_) (fun c => absurd (by decide) c)
    refine aw rfl rfl ?_
    refine aw rfl rfl ?_
    refine aw_divn rfl (by omega) (by omega) (by omega) ?_
    exact aw_iret rfl rfl q
  · skip
    refine aw rfl rfl ?_
    refine aw_cs (d1 := 0) (L1 := 0) rfl rfl (by decide) (by decide) (Nat.le_of_ble_eq_true rfl) (c_X10_sixesOf h6 hn ?_)
    refine aw_ist (ls' := [_, _, _, _, _]) rfl rfl ?_
    refine aw rfl rfl ?_
    refine aw rfl rfl ?_
    refine aw_cs (d1 := 0) (L1 := 0) rfl rfl (by decide) (by decide) (Nat.le_of_ble_eq_true rfl) (hcd.mono (fun r h1 hr => ?_))
    obtain ⟨rfl, rfl⟩ := hr
    refine (show AW _ _ _ _ _ _ (.int (nI (Nat.gcd a (6 ^ n))) :: _) _ _ from ?_)
    refine aw_ist (ls' := [_, _, _, _, _]) rfl rfl ?_
    refine aw rfl rfl ?_
    refine aw_nen rfl (fun c14 => ?_) (fun c14 => by omega)
    refine aw rfl rfl ?_
    refine aw_eq rfl (fun c => absurd c (by decide)) (fun _ => ?_)
    refine aw rfl rfl ?_
    refine aw rfl rfl ?_
    refine aw rfl rfl ?_
    refine aw_divn rfl (by omega) (by omega) (by omega) ?_
    exact aw_iret rfl rfl q
theorem c_lookC {Q : Option Value → am_H → Prop} (hC : CS g T0 u0 T1 u1 K rf p T W S u P td TD hd Z nt tp pc cc) {n : Nat} {r gq : Option Nat} {d : Nat} (hr : ∀ j, r = some j → j < T.1 3) (hs : ∀ s, gq = some s → s < 32) (hn : n ≤ 10 ∧ d ≤ 5) (q : ∀ g' u0 u1 K' rf', GX g g' K.2.2.2.2 K'.2.2.2.2 → CS g' T0 u0 T1 u1 K' rf' p T W S u P td TD hd Z nt tp pc cc → FA T (K'.2.1 (rf' 6)) (Fc T (lwf W) r (glB T gq) n ((S 4 + d) * T.1 5)) → (1 ≤ n → FA T (K'.2.1 (rf' 7)) (Fc T (lwf W) r (glB T gq) (n - 1) ((S 4 + d) * T.1 5 + T.1 5))) → Q none (ch g' T0 u0 T1 u1 K' rf')) : AC am_P 5 129 2 [.ref 105, .int (nI (S 4 + d)), .int (nI n), .int (rI r), .int (rI gq)] (ch g T0 u0 T1 u1 K rf) Q := by
  obtain ⟨h1, h2, ⟨no, na, lf, h3⟩, h4, h5, h6, h7, h8, h9, h10⟩ := hC
  have h47 := h7.1.2.2.2.1
  refine c_X0_look h1 h3 h4 h5 hr hs (by omega) hn.1 (fun g' v0 v1 K' rf' t1 t2 t3 t4 t5 t6 t7 t8 t9 => ?_)
  exact q g' v0 v1 K' rf' t1 ⟨t2, (t9 1 (by decide)).trans h2, ⟨no, na, lf, t3⟩, t4, t5, h6.lk t6, h7, h8, h9, h10⟩ t7 t8
theorem c_X10_homeChance {Q : Option Value → am_H → Prop} (hC : CS g T0 u0 T1 u1 K rf p T W S u P td TD hd Z nt tp pc cc) {n : Nat} (hn : n ≤ 10) (q : ∀ g' u0 u1 K' rf', GX g g' K.2.2.2.2 K'.2.2.2.2 → CS g' T0 u0 T1 u1 K' rf' p T W S u P td TD hd Z nt tp pc cc → Q (some (.int (nI (cN T (lwf W) S n)))) (ch g' T0 u0 T1 u1 K' rf')) : AC am_P 6 155 155 [.ref 8, .int (nI n)] (ch g T0 u0 T1 u1 K rf) Q := by
  refine AC.of (ls := [_, _]) rfl ?_
  have hp := hC.cx.1
  have hG := hC.cx.2.1
  have hG0 := hG
  obtain ⟨⟨g0, g0x⟩, ⟨g1, g1x⟩, ⟨g2, g2x⟩, ⟨g3, g3x⟩, g4, ⟨g5, g5x⟩, g6, gsq, goc, gwt, gsp, gfr⟩ := hG
  obtain ⟨s0, s1, s2, s3, s4, s5, s6⟩ := hC.sc
  have hl96 := s0.1
  unfold cN at q
  have hS6 : S 6 ≤ 2 := by rcases s6 with h | h | h <;> omega
  refine aw rfl rfl ?_
  refine aw_getf rfl cg_8 rfl ?_
  refine aw_getfE rfl cg_46 rfl (congrArg Value.int (hC.st 6 (by decide))) ?_
  refine aw_c (v := nI 2) rfl (by decide) ?_
  refine aw_inen rfl (fun c8 => ?_) (fun c8 => ?_)
  · refine aw rfl rfl ?_
    refine aw_getf rfl cg_8 rfl ?_
    refine aw rfl rfl ?_
    refine aw_getf rfl cg_8 rfl ?_
    refine aw_getfE rfl cg_46 rfl (congrArg Value.int (hC.st 4 (by decide))) ?_
    refine aw rfl rfl ?_
    refine aw_c (v := -1) rfl (by decide) ?_
    refine aw_c (v := -1) rfl (by decide) ?_
    refine aw_cv (d1 := 5) (L1 := 129) rfl rfl cg_105 rfl rfl (by decide) (by decide) (Nat.le_of_ble_eq_true rfl) (c_lookC (r := none) (gq := none) hC (fun j z => nomatch z) (fun j z => nomatch z) (d := 0) ⟨hn, by decide⟩ (fun g9 u0 u1 K rf hg9 hC hfa hfl => ?_))
    refine aw rfl rfl ?_
    refine aw_getf rfl cg_8 rfl ?_
    refine aw rfl rfl ?_
    refine aw_getf rfl cg_8 rfl ?_
    refine aw_cv (d1 := 1) (L1 := 21) rfl rfl cg_46 rfl rfl (by decide) (by decide) (Nat.le_of_ble_eq_true rfl) (c_X6_lie hC.st ?_)
    refine aw rfl rfl ?_
    refine aw_getf rfl cg_8 rfl ?_
    refine aw_getfE rfl cg_46 rfl (congrArg Value.int (hC.st 2 (by decide))) ?_
    refine aw_cv (d1 := 1) (L1 := 22) rfl rfl cg_105 rfl rfl (by decide) (by decide) (Nat.le_of_ble_eq_true rfl) (c_chance hC.cx.2.2.2.2.2.2.2.2.2.2.1 hfa g4 s0 (by omega) ?_)
    exact aw_iret rfl rfl (by rw [if_neg c8] at q; exact q _ _ _ _ _ hg9 hC)
  · refine aw_c (v := nI 0) rfl (by decide) ?_
    exact aw_iret rfl rfl (by rw [if_pos c8] at q; exact q _ _ _ _ _ GX.rf hC)
theorem c_X10_ruledChance {Q : Option Value → am_H → Prop} (hC : CS g T0 u0 T1 u1 K rf p T W S u P td TD hd Z nt tp pc cc) {j n : Nat} {gq : Option Nat} (hj : j < T.1 3) (hs : ∀ s, gq = some s → s < 32) (hn : n ≤ 10) (q : ∀ g' u0 u1 K' rf', GX g g' K.2.2.2.2 K'.2.2.2.2 → CS g' T0 u0 T1 u1 K' rf' p T W S u P td TD hd Z nt tp pc cc → Q (some (.int (nI (if S 6 = 2 then 0 else Fc T (lwf W) (some j) (glB T gq) n (S 4 * T.1 5) (S 0 * 3 + S 1) (S 2))))) (ch g' T0 u0 T1 u1 K' rf')) : AC am_P 6 155 164 [.ref 8, .int (nI j), .int (nI n), .int (rI gq)] (ch g T0 u0 T1 u1 K rf) Q := by
  refine AC.of (ls := [_, _, _, _]) rfl ?_
  have hp := hC.cx.1
  have hG := hC.cx.2.1
  have hG0 := hG
  obtain ⟨⟨g0, g0x⟩, ⟨g1, g1x⟩, ⟨g2, g2x⟩, ⟨g3, g3x⟩, g4, ⟨g5, g5x⟩, g6, gsq, goc, gwt, gsp, gfr⟩ := hG
  obtain ⟨s0, s1, s2, s3, s4, s5, s6⟩ := hC.sc
  have hl96 := s0.1
  have hS6 : S 6 ≤ 2 := by rcases s6 with h | h | h <;> omega
  refine aw rfl rfl ?_
  refine aw_getf rfl cg_8 rfl ?_
  refine aw_getfE rfl cg_46 rfl (congrArg Value.int (hC.st 6 (by decide))) ?_
  refine aw_c (v := nI 2) rfl (by decide) ?_
  refine aw_inen rfl (fun c8 => ?_) (fun c8 => ?_)
  · refine aw rfl rfl ?_
    refine aw_getf rfl cg_8 rfl ?_
    refine aw rfl rfl ?_
    refine aw_getf rfl cg_8 rfl ?_
    refine aw_getfE rfl cg_46 rfl (congrArg Value.int (hC.st 4 (by decide))) ?_
    refine aw rfl rfl ?_
    refine aw rfl rfl ?_
    refine aw rfl rfl ?_
    refine aw_cv (d1 := 5) (L1 := 129) rfl rfl cg_105 rfl rfl (by decide) (by decide) (Nat.le_of_ble_eq_true rfl) (c_lookC (r := some j) (gq := gq) hC (fun i z => by cases z; exact hj) hs (d := 0) ⟨hn, by decide⟩ (fun g9 u0 u1 K rf hg9 hC hfa hfl => ?_))
    refine aw rfl rfl ?_
    refine aw_getf rfl cg_8 rfl ?_
    refine aw rfl rfl ?_
    refine aw_getf rfl cg_8 rfl ?_
    refine aw_cv (d1 := 1) (L1 := 21) rfl rfl cg_46 rfl rfl (by decide) (by decide) (Nat.le_of_ble_eq_true rfl) (c_X6_lie hC.st ?_)
    refine aw rfl rfl ?_
    refine aw_getf rfl cg_8 rfl ?_
    refine aw_getfE rfl cg_46 rfl (congrArg Value.int (hC.st 2 (by decide))) ?_
    refine aw_cv (d1 := 1) (L1 := 22) rfl rfl cg_105 rfl rfl (by decide) (by decide) (Nat.le_of_ble_eq_true rfl) (c_chance hC.cx.2.2.2.2.2.2.2.2.2.2.1 hfa g4 s0 (by omega) ?_)
    exact aw_iret rfl rfl (by rw [if_neg c8] at q; exact q _ _ _ _ _ hg9 hC)
  · refine aw_c (v := nI 0) rfl (by decide) ?_
    exact aw_iret rfl rfl (by rw [if_pos c8] at q; exact q _ _ _ _ _ GX.rf hC)
end C1
