/-! ===== the class's reader: takeFormula ===== -/
def encP (p : Nat × Int32) : Int32 := enc p.1 p.2
theorem cad_n {C : List Int32} {x : Int32} (h : C.length < 400) : cad C x = C ++ [x] := if_pos h
theorem cads_n : ∀ (l : List Nat) (C : List Int32), C.length + l.length ≤ 400 → cads C l = C ++ (opsE l).map encP := by
  intro l
  induction l with
  | nil => intro C _; simp [cads, opsE]
  | cons x r ih =>
    intro C h
    rw [List.length_cons] at h
    show cads (cad C (enc x (nI 0))) r = _
    rw [cad_n (by omega), ih _ (by rw [List.length_append, List.length_singleton]; omega), List.append_assoc]
    rfl
theorem cads_le : ∀ (l : List Nat) (C : List Int32), C.length ≤ 400 → (cads C l).length ≤ 400 := by
  intro l
  induction l with
  | nil => intro C h; exact h
  | cons x r ih => intro C h; exact ih _ (cad_le h)
theorem tw_0 {P : Nat → Bool} (hP : P 0 = false) : ∀ l : List Nat, (l ++ [0]).takeWhile P = l.takeWhile P ∧ (l ++ [0]).dropWhile P = l.dropWhile P ++ [0] := by
  intro l
  induction l with
  | nil => simp [List.takeWhile, List.dropWhile, hP]
  | cons x r ih =>
    cases e : P x with
    | false => simp [List.takeWhile, List.dropWhile, e]
    | true => simp [List.takeWhile, List.dropWhile, e]; exact ih
theorem tmS_i : ∀ n, n < 8 → ∀ a, a < 3 → tmS (tmS n a) a = tmS n a := by decide
section C1
variable {z : Bool} {g : am_H} {T : Sd} {u : Ua} {X : Sd × Ua} {K : Ck} {rf : Nat → Nat}
variable {Y : Tk} {s : Ps} {C : List Int32} {l : List Nat}
theorem l_formF {Q : Option Value → am_H → Prop} (hR : RS Y K s) (hf : ¬ s.2.1.1 = 0) (hz : rf 2 = zq z) (hL : LA T u C l) {d i : Nat} (hd : d < 100) (hi : i < 1000) {w x4 : Option Value} (q : ∀ K' T' u' C' l', RS Y K' s → KQ K K' → LA T' u' C' l' → TM T T' → T'.1 8 = T.1 8 → Q none (cz z g T' u' X K' rf)) : AW am_P 2 44 61 18 [some (.ref 40), some (.int (nI d)), w, some (.int (nI i)), x4] [] (cz z g T u X K rf) Q := by
  have h8 := hR.2.2.2.1
  have hf8 := hR.2.2.1
  have hend : AW am_P 2 44 61 138 [some (.ref 40), some (.int (nI d)), w, some (.int (nI i)), x4] [] (cz z g T u X K rf) Q := by
    refine aw rfl rfl ?_
    refine aw_len rfl (fun c139 => ?_) (fun c139 => ?_)
    · refine aw rfl rfl ?_
      refine aw_getfE rfl zg_40 rfl (congrArg Value.ref hz) ?_
      refine aw_getf rfl zs_0 rfl ?_
      refine aw_cv (d1 := 1) (L1 := 22) rfl rfl zs_7 rfl rfl (by decide) (by decide) (Nat.le_of_ble_eq_true rfl) (c_X1_close hL (fun T1 u1 hL1 hT1 => ?_))
      exact aw_vret rfl rfl (q K T1 u1 _ _ hR KQ.rf hL1 hT1.tm (hT1.1 8 (by decide)))
    · refine aw rfl rfl ?_
      refine aw_c (v := nI 1) rfl (by decide) ?_
      refine aw_cv (d1 := 0) (L1 := 0) rfl rfl zg_40 rfl rfl (by decide) (by decide) (Nat.le_of_ble_eq_true rfl) (c_X4_fail hR (by decide) (fun K1 hR1 hK1 => ?_))
      refine aw rfl rfl ?_
      refine aw_getfE rfl zg_40 rfl (congrArg Value.ref hz) ?_
      refine aw_getf rfl zs_0 rfl ?_
      refine aw_cv (d1 := 1) (L1 := 22) rfl rfl zs_7 rfl rfl (by decide) (by decide) (Nat.le_of_ble_eq_true rfl) (c_X1_close hL (fun T1 u1 hL1 hT1 => ?_))
      exact aw_vret rfl rfl (q K1 T1 u1 _ _ (by rw [fl_f hf] at hR1; exact hR1) hK1 hL1 hT1.tm (hT1.1 8 (by decide)))
  refine aw rfl rfl ?_
  refine aw_c (v := nI 400) rfl (by decide) ?_
  refine aw_igtn rfl (fun c22 => ?_) (fun c22 => ?_)
  · exact hend
  · refine aw rfl rfl ?_
    refine aw_getfE rfl zg_40 rfl (congrArg Value.int h8) ?_
    refine aw_nen rfl (fun c29 => ?_) (fun c29 => absurd c29 hf)
    exact hend
theorem l_form {Q : Option Value → am_H → Prop} (hz : rf 2 = zq z) {a b8 : Nat} (ha : a < 3) (hb8 : b8 < 8) (hk : ∀ i, kOK (Y.1 i)) : ∀ (n i : Nat) (w : Bool) (d : Nat) (l : List Nat) (e : Ex) (s : Ps) (K : Ck) (T : Sd) (u : Ua) (x4 : Option Value) (_ : RS Y K s) (_ : s.2.1.1 = 0) (_ : K.1 6 = nI a) (_ : i + n ≤ 401) (_ : YI9 n w d l e s) (_ : LA T u (C ++ e.map encP) (l ++ [0])) (_ : C.length + e.length + z1 l + 1 ≤ s.1) (_ : T.1 8 = (if usS e then tmS b8 a else b8)) (_ : ∀ K' T' u' C' l', RS Y K' (yd Y n w d l e s).2 → KQ K K' → LA T' u' C' l' → TM T T' → T'.1 8 < 8 → ((yd Y n w d l e s).2.2.1.1 = 0 → C' = C ++ (yd Y n w d l e s).1.map encP ∧ l' = [] ∧ T'.1 8 = (if usS (yd Y n w d l e s).1 then tmS b8 a else b8)) → Q none (cz z g T' u' X K' rf)), AW am_P 2 44 61 18 [some (.ref 40), some (.int (nI d)), some (.int (bI w)), some (.int (nI i)), x4] [] (cz z g T u X K rf) Q := by
  intro n
  induction n with
  | zero => intro i w d l e s K T u x4 hR hf h6 hi hY; obtain ⟨_, _, _, _, _, h1, h2⟩ := hY; omega
  | succ n ih =>
    intro i w d l e s K T u x4 hR hf h6 hi hY hL hm h8 q
    have hlen := hY.len
    have hd6 := hY.2.2.2.1
    have hs4 := hY.2.2.2.2.2.2
    have h8l : T.1 8 < 8 := by rw [h8]; split; exact tmS_lt b8 hb8 a ha; exact hb8
    have hf0 : K.1 8 = nI 0 := by rw [hR.2.2.2.1, hf]
    have hCe : (C ++ e.map encP).length = C.length + e.length := by rw [List.length_append, List.length_map]
    rw [yd, if_neg (fun z => z hf)] at q
    have hnx : ∀ (w' : Bool) (d' : Nat) (l' : List Nat) (e' : Ex) (K1 : Ck) (T1 : Sd) (u1 : Ua) (C1 : List Int32) (l1 : List Nat) (x4' : Option Value) (_ : RS Y K1 (go Y s)) (_ : KQ K K1) (_ : LA T1 u1 C1 l1) (_ : TM T T1) (_ : T1.1 8 < 8) (_ : d' < 100) (_ : (go Y s).2.1.1 = 0 → YI9 n w' d' l' e' (go Y s) ∧ C1 = C ++ e'.map encP ∧ l1 = l' ++ [0] ∧ C.length + e'.length + z1 l' ≤ s.1 ∧ T1.1 8 = (if usS e' then tmS b8 a else b8)) (_ : ∀ K' T' u' C' l9, RS Y K' (yd Y n w' d' l' e' (go Y s)).2 → KQ K K' → LA T' u' C' l9 → TM T T' → T'.1 8 < 8 → ((yd Y n w' d' l' e' (go Y s)).2.2.1.1 = 0 → C' = C ++ (yd Y n w' d' l' e' (go Y s)).1.map encP ∧ l9 = [] ∧ T'.1 8 = (if usS (yd Y n w' d' l' e' (go Y s)).1 then tmS b8 a else b8)) → Q none (cz z g T' u' X K' rf)), AW am_P 2 44 61 18 [some (.ref 40), some (.int (nI d')), some (.int (bI w')), some (.int (nI (i + 1))), x4'] [] (cz z g T1 u1 X K1 rf) Q := by
      intro w' d' l' e' K1 T1 u1 C1 l1 x4' hR1 hK1 hL1 hT1 hT8 hd' hok q1
      by_cases hg : (go Y s).2.1.1 = 0
      · obtain ⟨a1, a2, a3, a4, a5⟩ := hok hg
        obtain ⟨_, _, g3⟩ := go_1 hg
        have g4 : (go Y s).1 = s.1 + 1 := by rw [g3]
        subst a2
        subst a3
        exact ih (i + 1) w' d' l' e' (go Y s) K1 T1 u1 x4' hR1 hg (by rw [hK1.1 6 (by omega)]; exact h6) (by omega) a1 hL1 (by omega) a5 (fun K2 T2 u2 C2 l2 b1 b2 b3 b4 b5 b6 => q1 K2 T2 u2 C2 l2 b1 (hK1.tr b2) b3 (hT1.tr b4) b5 b6)
      · rw [yd_f hg] at q1
        exact l_formF hR1 hg hz hL1 hd' (by omega) (fun K2 T2 u2 C2 l2 b1 b2 b3 b4 b5 => q1 K2 T2 u2 C2 l2 b1 (hK1.tr b2) b3 (hT1.tr b4) (by rw [b5]; exact hT8) (fun z => absurd z hg))
    cases w with
    | true =>
      rw [cond_true] at q
      refine aw rfl rfl ?_
      refine aw_c (v := nI 400) rfl (by decide) ?_
      refine aw_igtn rfl (fun c22 => by omega) (fun c22 => ?_)
      refine aw rfl rfl ?_
      refine aw_getfE rfl zg_40 rfl (congrArg Value.int hf0) ?_
      refine aw_ne rfl (fun c => absurd (by decide) c) (fun _ => ?_)
      refine aw rfl rfl ?_
      refine aw_cv (d1 := 0) (L1 := 0) rfl rfl zg_40 rfl rfl (by decide) (by decide) (Nat.le_of_ble_eq_true rfl) (c_opAny hR hf (fun x => ?_))
      refine aw_ist (ls' := [_, _, _, _, _]) rfl rfl ?_
      refine aw rfl rfl ?_
      refine aw_eq rfl (fun c => absurd c (by decide)) (fun _ => ?_)
      refine aw rfl rfl ?_
      refine aw_c (v := nI 40) rfl (by decide) ?_
      refine aw_cv (d1 := 0) (L1 := 0) rfl rfl zg_40 rfl rfl (by decide) (by decide) (Nat.le_of_ble_eq_true rfl) (c_isSign (k := 6) hR hf (Or.inl (by decide)) rfl (fun e6 => ?_) (fun e6 => ?_))
      · refine aw_eq rfl (fun c => absurd c (by decide)) (fun _ => ?_)
        refine aw_incn (c := 1) (ls' := [_, _, _, _, _]) rfl rfl (by decide) rfl ?_
        refine aw rfl rfl ?_
        refine aw rfl rfl ?_
        refine aw_cv (d1 := 1) (L1 := 21) rfl rfl zg_40 rfl rfl (by decide) (by decide) (Nat.le_of_ble_eq_true rfl) (c_X4_takeOpening hR hz hL (by omega) (fun hd9 K1 u1 hR1 hK1 hL1 => ?_) (fun hd9 K1 hR1 hK1 => ?_))
        · refine aw rfl rfl ?_
          refine aw_incn (c := 1) (ls' := [_, _, _, _, _]) rfl rfl (by decide) rfl ?_
          refine aw rfl rfl ?_
          rw [if_pos e6] at q
          have hd5 : ¬ d = 6 := by omega
          rw [if_neg hd5] at q
          refine hnx true (d + 1) (0 :: l) e K1 T u1 _ _ _ hR1 hK1 hL1 TM.rf h8l (by omega) (fun hg => ⟨yi_open hY hd5 hg, rfl, ?_, by rw [z1, if_pos rfl]; omega, h8⟩) q
          unfold opush
          rw [if_pos (by rw [List.length_append, List.length_singleton]; omega)]
          rfl
        · refine aw rfl rfl ?_
          refine aw_incn (c := 1) (ls' := [_, _, _, _, _]) rfl rfl (by decide) rfl ?_
          refine aw rfl rfl ?_
          rw [if_pos e6] at q
          have hd5 : d = 6 := by omega
          rw [if_pos hd5] at q
          have hff : ¬ (fl Y 2 s).2.1.1 = 0 := fl_0 (by decide)
          exact l_formF hR1 hff hz hL (by omega) (by omega) (fun K2 T2 u2 C2 l2 b1 b2 b3 b4 b5 => q K2 T2 u2 C2 l2 b1 (hK1.tr b2) b3 b4 (by rw [b5]; exact h8l) (fun z => absurd z hff))
      · refine aw_eq rfl (fun _ => ?_) (fun c => absurd (by decide) c)
        refine aw rfl rfl ?_
        refine aw_eq rfl (fun c => absurd c (by decide)) (fun _ => ?_)
        refine aw rfl rfl ?_
        refine aw_cv (d1 := 1) (L1 := 22) rfl rfl zg_40 rfl rfl (by decide) (by decide) (Nat.le_of_ble_eq_true rfl) (c_X4_takeUnit hR hf hz hL ha h6 h8l (fun hi2 K1 T1 hR1 hK1 hL1 hT1 h81 => ?_) (fun h36 K1 T1 hR1 hK1 hL1 hT1 h81 => ?_) (fun hn2 hn36 K1 hR1 hK1 => ?_))
        · refine aw_c (v := nI 0) rfl (by decide) ?_
          refine aw_ist (ls' := [_, _, _, _, _]) rfl rfl ?_
          refine aw rfl rfl ?_
          refine aw_incn (c := 1) (ls' := [_, _, _, _, _]) rfl rfl (by decide) rfl ?_
          refine aw rfl rfl ?_
          rw [if_neg e6, if_pos hi2] at q
          refine hnx false d l _ K1 T1 u _ _ _ hR1 hK1 hL1 hT1 (by rw [h81]; exact h8l) (by omega) (fun hg => ⟨yi_int hY hg, ?_, rfl, by rw [List.length_append, List.length_singleton]; omega, ?_⟩) q
          · rw [cad_n (by omega), List.map_append, List.append_assoc]; rfl
          · rw [h81, h8, us_app, show usS [(0, nI (Y.2.2.1 s.1))] = false from rfl, Bool.or_false]
        · refine aw_c (v := nI 0) rfl (by decide) ?_
          refine aw_ist (ls' := [_, _, _, _, _]) rfl rfl ?_
          refine aw rfl rfl ?_
          refine aw_incn (c := 1) (ls' := [_, _, _, _, _]) rfl rfl (by decide) rfl ?_
          refine aw rfl rfl ?_
          rw [if_neg e6, if_neg (by omega), if_pos h36] at q
          have hk9 := hk s.1
          refine hnx false d l _ K1 T1 u _ _ _ hR1 hK1 hL1 hT1 (by rw [h81]; split; exact tmS_lt _ h8l a ha; exact h8l) (by omega) (fun hg => ⟨yi_var hY (by unfold kOK sgK at hk9; omega) hg, ?_, rfl, by rw [List.length_append, List.length_singleton]; omega, ?_⟩) q
          · rw [cad_n (by omega), List.map_append, List.append_assoc]; rfl
          · rw [h81, h8, us_app]
            by_cases e42 : Y.1 s.1 = 42
            · rw [if_pos e42, show usS [(1, nI (Y.1 s.1 - 36))] = true by rw [e42]; rfl, Bool.or_true, if_pos rfl]
              split
              · exact tmS_i b8 hb8 a ha
              · rfl
            · rw [if_neg e42, show usS [(1, nI (Y.1 s.1 - 36))] = false by
                unfold usS
                simp
                intro z
                unfold kOK sgK at hk9
                exact absurd ((nI_eq (by omega) (by decide)).mp z) (by omega), Bool.or_false]
        · refine aw_c (v := nI 0) rfl (by decide) ?_
          refine aw_ist (ls' := [_, _, _, _, _]) rfl rfl ?_
          refine aw rfl rfl ?_
          refine aw_incn (c := 1) (ls' := [_, _, _, _, _]) rfl rfl (by decide) rfl ?_
          refine aw rfl rfl ?_
          rw [if_neg e6, if_neg hn2, if_neg hn36] at q
          have hff : ¬ (fl Y 1 s).2.1.1 = 0 := fl_0 (by decide)
          exact l_formF hR1 hff hz hL (by omega) (by omega) (fun K2 T2 u2 C2 l2 b1 b2 b3 b4 b5 => q K2 T2 u2 C2 l2 b1 (hK1.tr b2) b3 b4 (by rw [b5]; exact h8l) (fun z => absurd z hff))
    | false =>
      rw [cond_false] at q
      have hopk := @opK_in (Y.1 s.1)
      refine aw rfl rfl ?_
      refine aw_c (v := nI 400) rfl (by decide) ?_
      refine aw_igtn rfl (fun c22 => by omega) (fun c22 => ?_)
      refine aw rfl rfl ?_
      refine aw_getfE rfl zg_40 rfl (congrArg Value.int hf0) ?_
      refine aw_ne rfl (fun c => absurd (by decide) c) (fun _ => ?_)
      refine aw rfl rfl ?_
      refine aw_cv (d1 := 0) (L1 := 0) rfl rfl zg_40 rfl rfl (by decide) (by decide) (Nat.le_of_ble_eq_true rfl) (c_X4_operatorNext hR hf (fun hop => ?_) (fun hop => ?_))
      · refine aw_ist (ls' := [_, _, _, _, _]) rfl rfl ?_
        refine aw rfl rfl ?_
        refine aw_eq rfl (fun _ => ?_) (fun c => absurd (by decide) c)
        refine aw rfl rfl ?_
        refine aw_eq rfl (fun _ => ?_) (fun c => absurd (by decide) c)
        refine aw rfl rfl ?_
        refine aw_len rfl (fun c76 => ?_) (fun c76 => ?_)
        · refine aw rfl rfl ?_
          refine aw_c (v := -1) rfl (by decide) ?_
          refine aw_ieqm rfl ?_
          refine aw rfl rfl ?_
          refine aw_getfE rfl zg_40 rfl (congrArg Value.ref hz) ?_
          refine aw_getf rfl zs_0 rfl ?_
          refine aw rfl rfl ?_
          refine aw_cv (d1 := 1) (L1 := 22) rfl rfl zs_7 rfl rfl (by decide) (by decide) (Nat.le_of_ble_eq_true rfl) (c_X1_addOperator opK_in hL (fun T1 u1 hL1 hT1 => ?_))
          refine aw rfl rfl ?_
          refine aw_cv (d1 := 0) (L1 := 0) rfl rfl zg_40 rfl rfl (by decide) (by decide) (Nat.le_of_ble_eq_true rfl) (c_X4_take hR (fun K1 hR1 hK1 => ?_))
          refine aw_c (v := nI 1) rfl (by decide) ?_
          refine aw_ist (ls' := [_, _, _, _, _]) rfl rfl ?_
          refine aw_incn (c := 1) (ls' := [_, _, _, _, _]) rfl rfl (by decide) rfl ?_
          refine aw rfl rfl ?_
          rw [if_neg (by omega), if_pos hop] at q
          have hdw := dw_n (ppB (decide (4 ≤ opK (Y.1 s.1)))) pp0 l hY.1
          have hdl := z_len (l.dropWhile (ppB (decide (4 ≤ opK (Y.1 s.1)))))
          have hzl := z_len l
          refine hnx true d _ _ K1 T1 u1 _ _ _ hR1 hK1 hL1 hT1.tm (by rw [hT1.1 8 (by decide)]; exact h8l) (by omega) (fun hg => ⟨yi_op hY opK_in hg, ?_, ?_, by rw [List.length_append, opsE_len, z1, if_neg (by have := @opK_in (Y.1 s.1); omega)]; omega, ?_⟩) q
          · rw [(tw_0 pp0 l).1, cads_n _ _ (by rw [hCe]; omega), List.map_append, List.append_assoc]
          · rw [(tw_0 pp0 l).2]
            unfold opush
            rw [if_pos (by rw [List.length_append, List.length_singleton]; omega)]
            rfl
          · rw [hT1.1 8 (by decide), h8, us_app, opsE_us (no1_d hY.2.1).2.2, Bool.or_false]
        · refine aw rfl rfl ?_
          refine aw_c (v := nI 41) rfl (by decide) ?_
          refine aw_cv (d1 := 0) (L1 := 0) rfl rfl zg_40 rfl rfl (by decide) (by decide) (Nat.le_of_ble_eq_true rfl) (c_isSign (k := 7) hR hf (Or.inl (by decide)) rfl (fun e7 => ?_) (fun e7 => ?_))
          · refine aw_eq rfl (fun c => absurd c (by decide)) (fun _ => ?_)
            refine aw_decn (c := 1) (ls' := [_, _, _, _, _]) rfl rfl (by decide) (by omega) rfl ?_
            refine aw rfl rfl ?_
            refine aw_getfE rfl zg_40 rfl (congrArg Value.ref hz) ?_
            refine aw_getf rfl zs_0 rfl ?_
            refine aw_cv (d1 := 1) (L1 := 22) rfl rfl zs_7 rfl rfl (by decide) (by decide) (Nat.le_of_ble_eq_true rfl) (c_X1_close hL (fun T1 u1 hL1 hT1 => ?_))
            refine aw rfl rfl ?_
            refine aw_cv (d1 := 0) (L1 := 0) rfl rfl zg_40 rfl rfl (by decide) (by decide) (Nat.le_of_ble_eq_true rfl) (c_X4_take hR (fun K1 hR1 hK1 => ?_))
            refine aw rfl rfl ?_
            refine aw_incn (c := 1) (ls' := [_, _, _, _, _]) rfl rfl (by decide) rfl ?_
            refine aw rfl rfl ?_
            rw [if_pos ⟨e7, c76⟩] at q
            have hdw := dw_t hY.1 (by have := hY.2.2.1; omega)
            refine hnx false (d - 1) _ _ K1 T1 u1 _ _ _ hR1 hK1 hL1 hT1.tm (by rw [hT1.1 8 (by decide)]; exact h8l) (by omega) (fun hg => ⟨yi_close hY c76 hg, ?_, ?_, by rw [List.length_append, opsE_len]; omega, ?_⟩) q
            · rw [(tw_0 nz0 l).1, cads_n _ _ (by rw [hCe]; omega), List.map_append, List.append_assoc]
            · rw [(tw_0 nz0 l).2]
              cases ed : l.dropWhile nzB with
              | nil => rw [ed] at hdw; exact absurd hdw.2.1 (by have := (dw_n nzB nz0 l hY.1).2.1; rw [ed] at this; have := hY.2.2.1; have h9 : z0 [] = 0 := rfl; omega)
              | cons y r => rfl
            · rw [hT1.1 8 (by decide), h8, us_app, opsE_us (no1_d hY.2.1).2.2, Bool.or_false]
          · refine aw_eq rfl (fun _ => ?_) (fun c => absurd (by decide) c)
            refine aw rfl rfl ?_
            refine aw_c (v := -1) rfl (by decide) ?_
            refine aw_ieqm rfl ?_
            refine aw rfl rfl ?_
            refine aw_getfE rfl zg_40 rfl (congrArg Value.ref hz) ?_
            refine aw_getf rfl zs_0 rfl ?_
            refine aw rfl rfl ?_
            refine aw_cv (d1 := 1) (L1 := 22) rfl rfl zs_7 rfl rfl (by decide) (by decide) (Nat.le_of_ble_eq_true rfl) (c_X1_addOperator opK_in hL (fun T1 u1 hL1 hT1 => ?_))
            refine aw rfl rfl ?_
            refine aw_cv (d1 := 0) (L1 := 0) rfl rfl zg_40 rfl rfl (by decide) (by decide) (Nat.le_of_ble_eq_true rfl) (c_X4_take hR (fun K1 hR1 hK1 => ?_))
            refine aw_c (v := nI 1) rfl (by decide) ?_
            refine aw_ist (ls' := [_, _, _, _, _]) rfl rfl ?_
            refine aw_incn (c := 1) (ls' := [_, _, _, _, _]) rfl rfl (by decide) rfl ?_
            refine aw rfl rfl ?_
            rw [if_neg (fun w => e7 w.1), if_pos hop] at q
            have hdw := dw_n (ppB (decide (4 ≤ opK (Y.1 s.1)))) pp0 l hY.1
            have hdl := z_len (l.dropWhile (ppB (decide (4 ≤ opK (Y.1 s.1)))))
            have hzl := z_len l
            refine hnx true d _ _ K1 T1 u1 _ _ _ hR1 hK1 hL1 hT1.tm (by rw [hT1.1 8 (by decide)]; exact h8l) (by omega) (fun hg => ⟨yi_op hY opK_in hg, ?_, ?_, by rw [List.length_append, opsE_len, z1, if_neg (by have := @opK_in (Y.1 s.1); omega)]; omega, ?_⟩) q
            · rw [(tw_0 pp0 l).1, cads_n _ _ (by rw [hCe]; omega), List.map_append, List.append_assoc]
            · rw [(tw_0 pp0 l).2]
              unfold opush
              rw [if_pos (by rw [List.length_append, List.length_singleton]; omega)]
              rfl
            · rw [hT1.1 8 (by decide), h8, us_app, opsE_us (no1_d hY.2.1).2.2, Bool.or_false]
      · refine aw_ist (ls' := [_, _, _, _, _]) rfl rfl ?_
        refine aw rfl rfl ?_
        refine aw_eq rfl (fun _ => ?_) (fun c => absurd (by decide) c)
        refine aw rfl rfl ?_
        refine aw_eq rfl (fun _ => ?_) (fun c => absurd (by decide) c)
        refine aw rfl rfl ?_
        refine aw_len rfl (fun c76 => ?_) (fun c76 => ?_)
        · refine aw rfl rfl ?_
          refine aw_c (v := -1) rfl (by decide) ?_
          refine aw_ieq rfl (fun _ => ?_) (fun c => absurd (by decide) c)
          rw [if_neg (by omega), if_neg hop, if_neg (by omega)] at q
          have hdw := dw_e hY.1 (by have := hY.2.2.1; omega)
          refine aw rfl rfl ?_
          refine aw_len rfl (fun c139 => ?_) (fun c139 => by omega)
          refine aw rfl rfl ?_
          refine aw_getfE rfl zg_40 rfl (congrArg Value.ref hz) ?_
          refine aw_getf rfl zs_0 rfl ?_
          refine aw_cv (d1 := 1) (L1 := 22) rfl rfl zs_7 rfl rfl (by decide) (by decide) (Nat.le_of_ble_eq_true rfl) (c_X1_close hL (fun T1 u1 hL1 hT1 => ?_))
          exact aw_vret rfl rfl (q K T1 u1 _ _ hR KQ.rf hL1 hT1.tm (by rw [hT1.1 8 (by decide)]; exact h8l) (fun _ => by
            refine ⟨?_, ?_, ?_⟩
            · rw [(tw_0 nz0 l).1, cads_n _ _ (by rw [hCe]; omega), List.map_append, List.append_assoc]
            · rw [(tw_0 nz0 l).2, hdw.1]; rfl
            · rw [hT1.1 8 (by decide), h8, us_app, opsE_us (no1_d hY.2.1).2.2, Bool.or_false]))
        · refine aw rfl rfl ?_
          refine aw_c (v := nI 41) rfl (by decide) ?_
          refine aw_cv (d1 := 0) (L1 := 0) rfl rfl zg_40 rfl rfl (by decide) (by decide) (Nat.le_of_ble_eq_true rfl) (c_isSign (k := 7) hR hf (Or.inl (by decide)) rfl (fun e7 => ?_) (fun e7 => ?_))
          · refine aw_eq rfl (fun c => absurd c (by decide)) (fun _ => ?_)
            refine aw_decn (c := 1) (ls' := [_, _, _, _, _]) rfl rfl (by decide) (by omega) rfl ?_
            refine aw rfl rfl ?_
            refine aw_getfE rfl zg_40 rfl (congrArg Value.ref hz) ?_
            refine aw_getf rfl zs_0 rfl ?_
            refine aw_cv (d1 := 1) (L1 := 22) rfl rfl zs_7 rfl rfl (by decide) (by decide) (Nat.le_of_ble_eq_true rfl) (c_X1_close hL (fun T1 u1 hL1 hT1 => ?_))
            refine aw rfl rfl ?_
            refine aw_cv (d1 := 0) (L1 := 0) rfl rfl zg_40 rfl rfl (by decide) (by decide) (Nat.le_of_ble_eq_true rfl) (c_X4_take hR (fun K1 hR1 hK1 => ?_))
            refine aw rfl rfl ?_
            refine aw_incn (c := 1) (ls' := [_, _, _, _, _]) rfl rfl (by decide) rfl ?_
            refine aw rfl rfl ?_
            rw [if_pos ⟨e7, c76⟩] at q
            have hdw := dw_t hY.1 (by have := hY.2.2.1; omega)
            refine hnx false (d - 1) _ _ K1 T1 u1 _ _ _ hR1 hK1 hL1 hT1.tm (by rw [hT1.1 8 (by decide)]; exact h8l) (by omega) (fun hg => ⟨yi_close hY c76 hg, ?_, ?_, by rw [List.length_append, opsE_len]; omega, ?_⟩) q
            · rw [(tw_0 nz0 l).1, cads_n _ _ (by rw [hCe]; omega), List.map_append, List.append_assoc]
            · rw [(tw_0 nz0 l).2]
              cases ed : l.dropWhile nzB with
              | nil => rw [ed] at hdw; exact absurd hdw.2.1 (by have := (dw_n nzB nz0 l hY.1).2.1; rw [ed] at this; have := hY.2.2.1; have h9 : z0 [] = 0 := rfl; omega)
              | cons y r => rfl
            · rw [hT1.1 8 (by decide), h8, us_app, opsE_us (no1_d hY.2.1).2.2, Bool.or_false]
          · refine aw_eq rfl (fun _ => ?_) (fun c => absurd (by decide) c)
            refine aw rfl rfl ?_
            refine aw_c (v := -1) rfl (by decide) ?_
            refine aw_ieq rfl (fun _ => ?_) (fun c => absurd (by decide) c)
            rw [if_neg (fun w => e7 w.1), if_neg hop, if_pos c76] at q
            refine aw rfl rfl ?_
            refine aw_len rfl (fun c139 => by omega) (fun c139 => ?_)
            refine aw rfl rfl ?_
            refine aw_c (v := nI 1) rfl (by decide) ?_
            refine aw_cv (d1 := 0) (L1 := 0) rfl rfl zg_40 rfl rfl (by decide) (by decide) (Nat.le_of_ble_eq_true rfl) (c_X4_fail hR (by decide) (fun K1 hR1 hK1 => ?_))
            refine aw rfl rfl ?_
            refine aw_getfE rfl zg_40 rfl (congrArg Value.ref hz) ?_
            refine aw_getf rfl zs_0 rfl ?_
            refine aw_cv (d1 := 1) (L1 := 22) rfl rfl zs_7 rfl rfl (by decide) (by decide) (Nat.le_of_ble_eq_true rfl) (c_X1_close hL (fun T1 u1 hL1 hT1 => ?_))
            exact aw_vret rfl rfl (q K1 T1 u1 _ _ hR1 hK1 hL1 hT1.tm (by rw [hT1.1 8 (by decide)]; exact h8l) (fun z => absurd z (fl_0 (by decide))))
theorem c_X4_takeFormula {Q : Option Value → am_H → Prop} (hR : RS Y K s) (hz : rf 2 = zq z) {a : Nat} (ha : a < 3) (h6 : K.1 6 = nI a) (h8 : T.1 8 < 8) (hk : ∀ i, kOK (Y.1 i)) (hL : LA T u C l) (hok : s.2.1.1 = 0 → l = [] ∧ C.length + 1 ≤ s.1) (q : ∀ K' T' u' C' l', RS Y K' (xp Y s).2 → KQ K K' → LA T' u' C' l' → TM T T' → T'.1 8 < 8 → ((xp Y s).2.2.1.1 = 0 → C' = C ++ (xp Y s).1.map encP ∧ l' = [] ∧ T'.1 8 = (if usS (xp Y s).1 then tmS (T.1 8) a else T.1 8)) → Q none (cz z g T' u' X K' rf)) : AC am_P 2 44 61 [.ref 40] (cz z g T u X K rf) Q := by
  refine AC.of (ls := [_, _, _, _, _]) rfl ?_
  refine aw_c (v := nI 0) rfl (by decide) ?_
  refine aw_ist (ls' := [_, _, _, _, _]) rfl rfl ?_
  refine aw_c (v := nI 1) rfl (by decide) ?_
  refine aw_ist (ls' := [_, _, _, _, _]) rfl rfl ?_
  refine aw rfl rfl ?_
  refine aw_getfE rfl zg_40 rfl (congrArg Value.ref hz) ?_
  refine aw_getf rfl zs_0 rfl ?_
  refine aw_c (v := nI 8) rfl (by decide) ?_
  refine aw_cv (d1 := 0) (L1 := 0) rfl rfl zs_7 rfl rfl (by decide) (by decide) (Nat.le_of_ble_eq_true rfl) (c_X1_push (x := 0) hL (by decide) rfl (fun u1 hL1 => ?_))
  refine aw_c (v := nI 0) rfl (by decide) ?_
  refine aw_ist (ls' := [_, _, _, _, _]) rfl rfl ?_
  by_cases hf : s.2.1.1 = 0
  · obtain ⟨e1, e2⟩ := hok hf
    subst e1
    have ht := hR.2.1
    exact l_form hz ha h8 hk (401 - s.1) 0 true 0 [] [] s K T u1 none hR hf h6 (by omega) ⟨trivial, fun x hx => by simp at hx, rfl, by decide, rfl, by omega, ht⟩ (by rw [List.map_nil, List.append_nil]; exact hL1) e2 rfl q
  · rw [xp_f hf] at q
    exact l_formF (d := 0) (i := 0) hR hf hz hL1 (by decide) (by decide) (fun K2 T2 u2 C2 l2 b1 b2 b3 b4 b5 => q K2 T2 u2 C2 l2 b1 b2 b3 b4 (by rw [b5]; exact h8) (fun z => absurd z hf))
end C1
