/-! ===== the class's reader: takeLaw, takeSpot ===== -/
def LAc (T : Sd) (C : List Int32) : Prop := T.1 7 = C.length ∧ C.length ≤ 400 ∧ ∀ i, i < C.length → T.2 8 i = C.getD i 0
section C1
variable {z : Bool} {g : am_H} {T : Sd} {u : Ua} {X : Sd × Ua} {K : Ck} {rf : Nat → Nat}
variable {Y : Tk} {s : Ps} {C : List Int32} {l : List Nat}
theorem lwL_f {n : Nat} (h : ¬ s.2.1.1 = 0) : (lwL Y n s).2 = s := by
  cases n with
  | zero => rw [lwL, if_neg (fun w => h w.1), xp_f h]
  | succ n => rw [lwL, if_neg (fun w => h w.1), xp_f h]
theorem hRL {x : Int32} (h : RS Y K s) : RS Y (va_up K.1 6 x, K.2) s := h
theorem l_lawE {Q : Option Value → am_H → Prop} (hz : rf 2 = zq z) {a : Nat} (ha : a < 3) (hk : ∀ i, kOK (Y.1 i)) (hR : RS Y K s) (h6 : K.1 6 = nI a) (h8 : T.1 8 < 8) (hL : LA T u C l) (hok : s.2.1.1 = 0 → l = [] ∧ C.length + 1 ≤ s.1) {x1 x2 : Option Value} (q : ∀ K' T' u' C' l', RS Y K' (xp Y s).2 → KQ K K' → LA T' u' C' l' → TM T T' → T'.1 8 < 8 → ((xp Y s).2.2.1.1 = 0 → C' = C ++ lcode C.length [(none, (xp Y s).1)] ∧ C'.length ≤ (xp Y s).2.1 ∧ T'.1 8 = (if usL [(none, (xp Y s).1)] then tmS (T.1 8) a else T.1 8)) → Q none (cz z g T' u' X K' rf)) : AW am_P 4 89 58 75 [some (.ref 40), x1, x2] [] (cz z g T u X K rf) Q := by
  have hs4 := hR.2.1
  obtain ⟨⟨e1, s1⟩, hx1⟩ : ∃ p, xp Y s = p := ⟨_, rfl⟩
  rw [hx1] at q
  refine aw rfl rfl ?_
  refine aw_cv (d1 := 2) (L1 := 44) rfl rfl zg_40 rfl rfl (by decide) (by decide) (Nat.le_of_ble_eq_true rfl) (c_formE hR hx1 hz ha h6 h8 hk hL hok (fun K1 T1 u1 C1 l1 hR1 hK1 hL1 hT1 h81 ok1 => ?_))
  refine aw rfl rfl ?_
  refine aw_getfE rfl zg_40 rfl (congrArg Value.ref hz) ?_
  refine aw_getf rfl zs_0 rfl ?_
  refine aw_c (v := nI 7) rfl (by decide) ?_
  refine aw_c (v := nI 0) rfl (by decide) ?_
  refine aw_cv (d1 := 0) (L1 := 0) rfl rfl zs_7 rfl rfl (by decide) (by decide) (Nat.le_of_ble_eq_true rfl) (c_X1_add hL1 (fun T2 hL2 hT2 => ?_))
  refine aw rfl rfl ?_
  exact aw_vret rfl rfl (q K1 T2 u1 _ _ hR1 hK1 hL2 (hT1.tr hT2.tm) (by rw [hT2.1 8 (by decide)]; exact h81) (fun hg => by
    have o1 := ok1 hg
    have x1 := xp_E hx1 hs4 hk hg
    have o0 := hok x1.1
    have b1 := hR1.2.1
    have hg : C1.length < 400 := by omega
    rw [cad_n hg]
    refine ⟨?_, by rw [List.length_append, List.length_singleton]; show C1.length + 1 ≤ s1.1; omega, ?_⟩
    · rw [o1.1, List.append_assoc, lcode, lcode, List.append_nil]; rfl
    · rw [hT2.1 8 (by decide), o1.2.2.2, show usL [((none : Option (Ex × Ex)), e1)] = usS e1 by simp [usL, usB]]))
theorem l_law {Q : Option Value → am_H → Prop} (hz : rf 2 = zq z) {a : Nat} (ha : a < 3) (hk : ∀ i, kOK (Y.1 i)) {x1 : Int32} : ∀ (n : Nat) (s : Ps) (K : Ck) (T : Sd) (u : Ua) (C : List Int32) (l : List Nat) (_ : n ≤ 4) (_ : RS Y K s) (_ : K.1 6 = nI a) (_ : T.1 8 < 8) (_ : LA T u C l) (_ : s.2.1.1 = 0 → l = [] ∧ C.length + 1 ≤ s.1) (_ : ∀ K' T' u' C' l', RS Y K' (lwL Y n s).2 → KQ K K' → LA T' u' C' l' → TM T T' → T'.1 8 < 8 → ((lwL Y n s).2.2.1.1 = 0 → C' = C ++ lcode C.length (lwL Y n s).1 ∧ C'.length ≤ (lwL Y n s).2.1 ∧ T'.1 8 = (if usL (lwL Y n s).1 then tmS (T.1 8) a else T.1 8)) → Q none (cz z g T' u' X K' rf)), AW am_P 4 89 58 31 [some (.ref 40), some (.int x1), some (.int (nI (4 - n)))] [] (cz z g T u X K rf) Q := by
  intro n
  induction n with
  | zero =>
    intro s K T u C l hn hR h6 h8 hL hok q
    rw [lwL] at q
    by_cases hf : s.2.1.1 = 0
    · have hf0 : K.1 8 = nI 0 := by rw [hR.2.2.2.1, hf]
      refine aw rfl rfl ?_
      refine aw_c (v := nI 4) rfl (by decide) ?_
      refine aw_igt rfl (fun c => absurd c (by decide)) (fun _ => ?_)
      refine aw rfl rfl ?_
      refine aw_getfE rfl zg_40 rfl (congrArg Value.int hf0) ?_
      refine aw_ne rfl (fun c => absurd (by decide) c) (fun _ => ?_)
      refine aw rfl rfl ?_
      refine aw_c (v := nI 13) rfl (by decide) ?_
      refine aw_cv (d1 := 0) (L1 := 0) rfl rfl zg_40 rfl rfl (by decide) (by decide) (Nat.le_of_ble_eq_true rfl) (c_isWord (k := 13) hR hf (by decide) rfl (fun e13 => ?_) (fun e13 => ?_))
      · refine aw_eq rfl (fun c => absurd c (by decide)) (fun _ => ?_)
        refine aw rfl rfl ?_
        refine aw_c (v := nI 4) rfl (by decide) ?_
        refine aw_ine rfl (fun c => absurd (by decide) c) (fun _ => ?_)
        refine aw rfl rfl ?_
        refine aw_c (v := nI 2) rfl (by decide) ?_
        refine aw_cv (d1 := 0) (L1 := 0) rfl rfl zg_40 rfl rfl (by decide) (by decide) (Nat.le_of_ble_eq_true rfl) (c_X4_fail hR (by decide) (fun K1 hR1 hK1 => ?_))
        refine aw rfl rfl ?_
        refine aw_incc (c := nI 1) (y := nI 5) (ls' := [_, _, _]) rfl rfl (by decide) (by decide) rfl ?_
        refine aw rfl rfl ?_
        refine aw rfl rfl ?_
        refine aw_c (v := nI 4) rfl (by decide) ?_
        refine aw_igt rfl (fun _ => ?_) (fun c => absurd (by decide) c)
        rw [if_pos ⟨hf, e13⟩] at q
        have hff : ¬ (fl Y 2 s).2.1.1 = 0 := fl_0 (by decide)
        exact l_lawE hz ha hk hR1 (by rw [hK1.1 6 (by omega)]; exact h6) h8 hL (fun w => absurd w hff) (fun K2 T2 u2 C2 l2 b1 b2 b3 b4 b5 b6 => q K2 T2 u2 C2 l2 (by rw [xp_f hff] at b1; exact b1) (hK1.tr b2) b3 b4 b5 (fun w => absurd w hff))
      · refine aw_eq rfl (fun _ => ?_) (fun c => absurd (by decide) c)
        rw [if_neg (fun w => e13 w.2)] at q
        exact l_lawE hz ha hk hR h6 h8 hL hok q
    · have hf9 := hR.2.2.2.1
      have hl9 := hR.2.2.1
      refine aw rfl rfl ?_
      refine aw_c (v := nI 4) rfl (by decide) ?_
      refine aw_igt rfl (fun c => absurd c (by decide)) (fun _ => ?_)
      refine aw rfl rfl ?_
      refine aw_getfE rfl zg_40 rfl (congrArg Value.int hf9) ?_
      refine aw_nen rfl (fun c40 => ?_) (fun c40 => absurd c40 hf)
      rw [if_neg (fun w => hf w.1)] at q
      exact l_lawE hz ha hk hR h6 h8 hL hok q
  | succ n ih =>
    intro s K T u C l hn hR h6 h8 hL hok q
    rw [lwL] at q
    by_cases hf : s.2.1.1 = 0
    · have hf0 : K.1 8 = nI 0 := by rw [hR.2.2.2.1, hf]
      refine aw rfl rfl ?_
      refine aw_c (v := nI 4) rfl (by decide) ?_
      refine aw_igtn rfl (fun c33 => by omega) (fun c33 => ?_)
      refine aw rfl rfl ?_
      refine aw_getfE rfl zg_40 rfl (congrArg Value.int hf0) ?_
      refine aw_ne rfl (fun c => absurd (by decide) c) (fun _ => ?_)
      refine aw rfl rfl ?_
      refine aw_c (v := nI 13) rfl (by decide) ?_
      refine aw_cv (d1 := 0) (L1 := 0) rfl rfl zg_40 rfl rfl (by decide) (by decide) (Nat.le_of_ble_eq_true rfl) (c_isWord (k := 13) hR hf (by decide) rfl (fun e13 => ?_) (fun e13 => ?_))
      · refine aw_eq rfl (fun c => absurd c (by decide)) (fun _ => ?_)
        refine aw rfl rfl ?_
        refine aw_c (v := nI 4) rfl (by decide) ?_
        refine aw_inen rfl (fun c54 => ?_) (fun c54 => by omega)
        refine aw rfl rfl ?_
        refine aw_cv (d1 := 3) (L1 := 68) rfl rfl zg_40 rfl rfl (by decide) (by decide) (Nat.le_of_ble_eq_true rfl) (c_X4_takeBranch hR hz ha h6 h8 hk hL (hok hf).1 (hok hf).2 (fun K1 T1 u1 C1 l1 hR1 hK1 hL1 hT1 h81 ok1 => ?_))
        refine aw_incn (c := 1) (ls' := [_, _, _]) rfl rfl (by decide) rfl ?_
        refine aw rfl rfl ?_
        rw [if_pos ⟨hf, e13⟩] at q
        have h9 := ih (lwB Y s).2 K1 T1 u1 C1 l1 (by omega) hR1 (by rw [hK1.1 6 (by omega)]; exact h6) h81 hL1 (fun hg => ⟨(ok1 hg).2.1, (ok1 hg).2.2.1⟩) (fun K2 T2 u2 C2 l2 b1 b2 b3 b4 b5 b6 => q K2 T2 u2 C2 l2 b1 (hK1.tr b2) b3 (hT1.tr b4) b5 (fun hg => by
          obtain ⟨d1, d2, d3⟩ := b6 hg
          have hg9 : (lwB Y s).2.2.1.1 = 0 := Decidable.of_not_not (fun w => by
            have e9 : (lwL Y n (lwB Y s).2).2 = (lwB Y s).2 := lwL_f w
            have hg : (lwL Y n (lwB Y s).2).2.2.1.1 = 0 := hg
            rw [e9] at hg
            exact w hg)
          obtain ⟨c1, c2, c3, c4⟩ := ok1 hg9
          refine ⟨?_, d2, ?_⟩
          · rw [d1, c1, List.append_assoc, lcode, List.length_append, brc_len]
          · rw [d3, c4, tm_or h8 ha]
            rfl))
        rw [show nI (4 - (n + 1) + 1) = nI (4 - n) by rw [show 4 - (n + 1) + 1 = 4 - n by omega]]
        exact h9
      · refine aw_eq rfl (fun _ => ?_) (fun c => absurd (by decide) c)
        rw [if_neg (fun w => e13 w.2)] at q
        exact l_lawE hz ha hk hR h6 h8 hL hok q
    · have hf9 := hR.2.2.2.1
      have hl9 := hR.2.2.1
      refine aw rfl rfl ?_
      refine aw_c (v := nI 4) rfl (by decide) ?_
      refine aw_igtn rfl (fun c33 => by omega) (fun c33 => ?_)
      refine aw rfl rfl ?_
      refine aw_getfE rfl zg_40 rfl (congrArg Value.int hf9) ?_
      refine aw_nen rfl (fun c40 => ?_) (fun c40 => absurd c40 hf)
      rw [if_neg (fun w => hf w.1)] at q
      exact l_lawE hz ha hk hR h6 h8 hL hok q
theorem c_X4_takeLaw {Q : Option Value → am_H → Prop} (hz : rf 2 = zq z) {a : Nat} (ha : a < 3) (hk : ∀ i, kOK (Y.1 i)) (hR : RS Y K s) (h8 : T.1 8 < 8) (hL : LAc T C) (hok : C.length ≤ s.1) (q : ∀ K' T' u' C' l', RS Y K' (lwA Y s).2 → KQ6 K K' → LA T' u' C' l' → TL T T' → T'.1 8 < 8 → ((lwA Y s).2.2.1.1 = 0 → C' = C ++ lcode C.length (lwA Y s).1 ∧ C'.length ≤ (lwA Y s).2.1 ∧ T'.1 8 = (if usL (lwA Y s).1 then tmS (tmC (T.1 8) a) a else tmC (T.1 8) a) ∧ T'.2 9 = upd (T.2 9) a (nI C.length)) → Q none (cz z g T' u' X K' rf)) : AC am_P 4 89 58 [.ref 40, .int (nI a)] (cz z g T u X K rf) Q := by
  refine AC.of (ls := [_, _, _]) rfl ?_
  have h7 := hL.1
  obtain ⟨s1, hg1⟩ : ∃ p, go Y s = p := ⟨_, rfl⟩
  obtain ⟨s2, hm2⟩ : ∃ p, mu Y 5 s1 = p := ⟨_, rfl⟩
  have hA : lwA Y s = lwL Y 4 s2 := by unfold lwA; rw [hg1, hm2]
  rw [hA] at q
  refine aw rfl rfl ?_
  refine aw rfl rfl ?_
  refine aw_putfU rfl zg_40 rfl rfl (by decide) zp_40_6 ?_
  refine aw rfl rfl ?_
  refine aw_cv (d1 := 0) (L1 := 0) rfl rfl zg_40 rfl rfl (by decide) (by decide) (Nat.le_of_ble_eq_true rfl) (c_takeE (hRL hR) hg1 (fun K1 hR1 hK1 => ?_))
  refine aw rfl rfl ?_
  refine aw_c (v := nI 61) rfl (by decide) ?_
  refine aw_cv (d1 := 1) (L1 := 21) rfl rfl zg_40 rfl rfl (by decide) (by decide) (Nat.le_of_ble_eq_true rfl) (c_signE hR1 hm2 (by unfold sgK; decide) rfl (fun K2 hR2 hK2 => ?_))
  refine aw rfl rfl ?_
  refine aw_getfE rfl zg_40 rfl (congrArg Value.ref hz) ?_
  refine aw_getf rfl zs_0 rfl ?_
  refine aw rfl rfl ?_
  refine aw_getfE rfl zg_40 rfl (congrArg Value.int (show K2.1 6 = nI a from by rw [hK2.1 6 (by omega), hK1.1 6 (by omega)]; rfl)) ?_
  refine aw_cv (d1 := 0) (L1 := 0) rfl rfl zs_7 rfl rfl (by decide) (by decide) (Nat.le_of_ble_eq_true rfl) (c_X1_start ha h8 ?_)
  refine aw_c (v := nI 0) rfl (by decide) ?_
  refine aw_ist (ls' := [_, _, _]) rfl rfl ?_
  refine l_law hz ha hk 4 s2 K2 _ _ C [] (Nat.le_refl _) hR2 (by rw [hK2.1 6 (by omega), hK1.1 6 (by omega)]; rfl) (tmC_lt _ h8 a ha) ⟨hL.1, hL.2.1, hL.2.2, rfl, by decide, trivial⟩ (fun hg => ?_) (fun K3 T3 u3 C3 l3 b1 b2 b3 b4 b5 b6 => ?_)
  · have m := mu_E hm2 hg
    have y := go_E hg1 m.1
    exact ⟨rfl, by omega⟩
  · refine q K3 T3 u3 C3 l3 b1 (((show KQ6 K (va_up K.1 6 (nI a), K.2) from ⟨fun n hn => vu_ot (by omega), rfl⟩).tr (hK1.k6.tr hK2.k6)).tr b2.k6) b3 ⟨fun j h7 h8 => (b4.1 j h7 h8).trans (vu_ot h8), fun j h8 h9 => (b4.2 j h8).trans (vu_ot h9)⟩ b5 (fun hg => ?_)
    obtain ⟨d1, d2, d3⟩ := b6 hg
    exact ⟨d1, d2, d3, by rw [b4.2 9 (by decide), ← h7]; rfl⟩
end C1
