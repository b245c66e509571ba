/-! ===== the class's reader: takeOutcomes ===== -/
def ots (Y : Tk) : Nat → Ps → List OT × Ps
  | 0, s => if s.2.1.1 = 0 ∧ Y.1 s.1 = 2 then ([], fl Y 2 s) else ([], s)
  | n + 1, s => if s.2.1.1 = 0 ∧ Y.1 s.1 = 2 then ((otc Y s).1 :: (ots Y n (otc Y s).2).1, (ots Y n (otc Y s).2).2) else ([], s)
def osm : List OT → Nat
  | [] => 0
  | o :: r => o.1 + osm r
def otR (T : Sd) (b : Nat) (o : OT) : Prop := T.2 2 b = nI o.1 ∧ T.2 3 b = nI o.2.1 ∧ T.2 4 b = (bif o.2.2.1 then - nI o.2.2.2.1 else nI o.2.2.2.1) ∧ T.2 5 b = nI o.2.2.2.2
def osR (T : Sd) : Nat → List OT → Prop
  | _, [] => True
  | b, o :: r => otR T b o ∧ osR T (b + 1) r
/-- what the outcomes of a kick that are told leave of a street -/
def TQ (kk lo : Nat) (T T' : Sd) : Prop := T'.1 = T.1 ∧ (∀ j, j = 0 ∨ 5 < j → T'.2 j = T.2 j) ∧ (∀ i, ¬ i = kk → T'.2 1 i = T.2 1 i) ∧ (∀ j i, 2 ≤ j → j ≤ 5 → i < lo ∨ 6 * kk + 6 ≤ i → T'.2 j i = T.2 j i)
theorem ots_f {Y : Tk} {n : Nat} {s : Ps} (h : ¬ s.2.1.1 = 0) : ots Y n s = ([], s) := by
  cases n with
  | zero => rw [ots, if_neg (fun w => h w.1)]
  | succ n => rw [ots, if_neg (fun w => h w.1)]
theorem ots_len {Y : Tk} : ∀ (n : Nat) (s : Ps), (ots Y n s).1.length ≤ n := by
  intro n
  induction n with
  | zero => intro s; rw [ots]; split <;> exact Nat.le_refl _
  | succ n ih =>
    intro s
    rw [ots]
    split
    · rw [List.length_cons]; have := ih (otc Y s).2; omega
    · exact Nat.zero_le _
section C1
variable {z : Bool} {g : am_H} {T : Sd} {u : Ua} {X : Sd × Ua} {K : Ck} {rf : Nat → Nat}
variable {Y : Tk} {s : Ps} {C : List Int32} {l : List Nat}
theorem l_otsE {Q : Option Value → am_H → Prop} (hz : rf 2 = zq z) {kk : Nat} (hkk : kk < 4) (hR : RS Y K s) {x : Int32} {n : Nat} {x4 : Option Value} (hn : n ≤ 6) (q : ∀ K' T' y, RS Y K' s → KQ K K' → TQ kk (6 * kk + n) T T' → (s.2.1.1 = 0 → T'.2 1 kk = nI (n + 0) ∧ True ∧ y = x + nI 0) → Q (some (.int y)) (cz z g T' u X K' rf)) : AW am_P 3 71 52 65 [some (.ref 40), some (.int (nI kk)), some (.int x), some (.int (nI n)), x4] [] (cz z g T u X K rf) Q := by
  refine aw rfl rfl ?_
  refine aw_getfE rfl zg_40 rfl (congrArg Value.ref hz) ?_
  refine aw_getf rfl zs_0 rfl ?_
  refine aw rfl rfl ?_
  refine aw rfl rfl ?_
  refine aw_iastU rfl zs_2 rfl (by omega) (by decide) zq_8 zv_2 ?_
  refine aw rfl rfl ?_
  exact aw_iret rfl rfl (q K _ _ hR KQ.rf ⟨rfl, fun j hj => vu_ot (by omega), fun i hi => upd_ne hi, fun j i h2 h5 _ => congrFun (vu_ot (show ¬ j = 1 by omega)) i⟩ (fun _ => ⟨upd_at, trivial, (Int32.add_zero x).symm⟩))
theorem l_ots {Q : Option Value → am_H → Prop} (hz : rf 2 = zq z) {kk : Nat} (hkk : kk < 4) : ∀ (m n : Nat) (s : Ps) (K : Ck) (T : Sd) (x : Int32) (_ : n + m = 6) (_ : RS Y K s) (_ : ∀ K' T' y, RS Y K' (ots Y m s).2 → KQ K K' → TQ kk (6 * kk + n) T T' → ((ots Y m s).2.2.1.1 = 0 → T'.2 1 kk = nI (n + (ots Y m s).1.length) ∧ osR T' (6 * kk + n) (ots Y m s).1 ∧ y = x + nI (osm (ots Y m s).1)) → Q (some (.int y)) (cz z g T' u X K' rf)), AW am_P 3 71 52 7 [some (.ref 40), some (.int (nI kk)), some (.int x), some (.int (nI n)), some (.int (nI n))] [] (cz z g T u X K rf) Q := by
  intro m
  induction m with
  | zero =>
    intro n s K T x hnm hR q
    have hn6 : n = 6 := by omega
    subst hn6
    by_cases hf : s.2.1.1 = 0
    · have hf0 : K.1 8 = nI 0 := by rw [hR.2.2.2.1, hf]
      have ht := (hR.2.2.2.2.1 hf).2.1
      refine aw rfl rfl ?_
      refine aw_c (v := nI 6) rfl (by decide) ?_
      refine aw_igt rfl (fun c => absurd c (by decide)) (fun _ => ?_)
      refine aw rfl rfl ?_
      refine aw_getfE rfl zg_40 rfl (congrArg Value.int hf0) ?_
      refine aw_ne rfl (fun c => absurd (by decide) c) (fun _ => ?_)
      refine aw rfl rfl ?_
      refine aw_getf rfl zg_40 rfl ?_
      refine aw_c (v := nI 3) rfl (by decide) ?_
      refine aw_ine rfl (fun c26 => ?_) (fun c26 => ?_)
      · rw [ots, if_neg (fun w => c26 ((tk_int ht).mpr w.2))] at q
        exact l_otsE hz hkk hR (by omega) q
      · refine aw rfl rfl ?_
        refine aw_c (v := nI 6) rfl (by decide) ?_
        refine aw_ine rfl (fun c => absurd (by decide) c) (fun _ => ?_)
        refine aw rfl rfl ?_
        refine aw_c (v := nI 2) rfl (by decide) ?_
        refine aw_cv (d1 := 0) (L1 := 0) rfl rfl zg_40 rfl rfl (by decide) (by decide) (Nat.le_of_ble_eq_true rfl) (c_X4_fail hR (by decide) (fun K1 hR1 hK1 => ?_))
        refine aw rfl rfl ?_
        refine aw_incc (c := nI 1) (y := nI 7) (ls' := [_, _, _, _, _]) rfl rfl (by decide) (by decide) rfl ?_
        refine aw rfl rfl ?_
        refine aw rfl rfl ?_
        refine aw_c (v := nI 6) rfl (by decide) ?_
        refine aw_igt rfl (fun _ => ?_) (fun c => absurd (by decide) c)
        rw [ots, if_pos ⟨hf, (tk_int ht).mp c26⟩] at q
        have hff : ¬ (fl Y 2 s).2.1.1 = 0 := fl_0 (by decide)
        exact l_otsE hz hkk hR1 (by decide) (fun K2 T2 y b1 b2 b3 b4 => q K2 T2 y b1 (hK1.tr b2) b3 (fun w => absurd w hff))
    · have hf9 := hR.2.2.2.1
      have hl9 := hR.2.2.1
      refine aw rfl rfl ?_
      refine aw_c (v := nI 6) rfl (by decide) ?_
      refine aw_igt rfl (fun c => absurd c (by decide)) (fun _ => ?_)
      refine aw rfl rfl ?_
      refine aw_getfE rfl zg_40 rfl (congrArg Value.int hf9) ?_
      refine aw_nen rfl (fun c18 => ?_) (fun c18 => absurd c18 hf)
      rw [ots, if_neg (fun w => hf w.1)] at q
      exact l_otsE hz hkk hR (by omega) q
  | succ m ih =>
    intro n s K T x hnm hR q
    by_cases hf : s.2.1.1 = 0
    · have hf0 : K.1 8 = nI 0 := by rw [hR.2.2.2.1, hf]
      have ht := (hR.2.2.2.2.1 hf).2.1
      refine aw rfl rfl ?_
      refine aw_c (v := nI 6) rfl (by decide) ?_
      refine aw_igtn rfl (fun c11 => by omega) (fun c11 => ?_)
      refine aw rfl rfl ?_
      refine aw_getfE rfl zg_40 rfl (congrArg Value.int hf0) ?_
      refine aw_ne rfl (fun c => absurd (by decide) c) (fun _ => ?_)
      refine aw rfl rfl ?_
      refine aw_getf rfl zg_40 rfl ?_
      refine aw_c (v := nI 3) rfl (by decide) ?_
      refine aw_ine rfl (fun c26 => ?_) (fun c26 => ?_)
      · rw [ots, if_neg (fun w => c26 ((tk_int ht).mpr w.2))] at q
        exact l_otsE hz hkk hR (by omega) q
      · refine aw rfl rfl ?_
        refine aw_c (v := nI 6) rfl (by decide) ?_
        refine aw_inen rfl (fun c32 => ?_) (fun c32 => by omega)
        refine aw rfl rfl ?_
        refine aw rfl rfl ?_
        refine aw rfl rfl ?_
        refine aw_c (v := nI 6) rfl (by decide) ?_
        refine aw_muln rfl ?_
        refine aw rfl rfl ?_
        refine aw_addn rfl ?_
        refine aw_cv (d1 := 2) (L1 := 45) rfl rfl zg_40 rfl rfl (by decide) (by decide) (Nat.le_of_ble_eq_true rfl) (c_X4_takeOutcome hz hR (by omega) (fun K1 T1 x1 x2 x3 x4 hR1 hK1 hT1 hx1 => ?_))
        refine aw rfl rfl ?_
        refine aw_ist (ls' := [_, _, _, _, _]) rfl rfl ?_
        refine aw_incn (c := 1) (ls' := [_, _, _, _, _]) rfl rfl (by decide) rfl ?_
        refine aw_incn (c := 1) (ls' := [_, _, _, _, _]) rfl rfl (by decide) rfl ?_
        refine aw rfl rfl ?_
        rw [ots, if_pos ⟨hf, (tk_int ht).mp c26⟩] at q
        obtain ⟨t1, t2, t3, t4, t5, t6⟩ := hT1
        refine ih (n + 1) (otc Y s).2 K1 T1 (x + x1) (by omega) hR1 (fun K2 T2 y b1 b2 b3 b4 => q K2 T2 y b1 (hK1.tr b2) ?_ (fun hg => ?_))
        · obtain ⟨v1, v2, v3, v4⟩ := b3
          refine ⟨v1.trans t1, fun j hj => (v2 j hj).trans (t2 j (by omega)), fun i hi => by rw [v3 i hi, t2 1 (by decide)], fun j i h2 h5 hi => ?_⟩
          rw [v4 j i h2 h5 (by omega)]
          have ej : j = 2 ∨ j = 3 ∨ j = 4 ∨ j = 5 := by omega
          rcases ej with rfl | rfl | rfl | rfl
          · rw [t3, upd_ne (by omega)]
          · rw [t4, upd_ne (by omega)]
          · rw [t5, upd_ne (by omega)]
          · rw [t6, upd_ne (by omega)]
        · have hg9 : (otc Y s).2.2.1.1 = 0 := Decidable.of_not_not (fun w => by
            have hg : (ots Y m (otc Y s).2).2.2.1.1 = 0 := hg
            rw [ots_f w] at hg
            exact w hg)
          obtain ⟨c1, c2, c3⟩ := b4 hg
          obtain ⟨y1, y2, y3, y4⟩ := hx1 hg9
          obtain ⟨v1, v2, v3, v4⟩ := b3
          have ew : kk * 6 + n = 6 * kk + n := by omega
          rw [ew] at t3 t4 t5 t6
          refine ⟨?_, ⟨⟨?_, ?_, ?_, ?_⟩, ?_⟩, ?_⟩
          · rw [c1, List.length_cons]; congr 1; omega
          · rw [v4 2 _ (by decide) (by decide) (by omega), t3, upd_at, y1]
          · rw [v4 3 _ (by decide) (by decide) (by omega), t4, upd_at, y2]
          · rw [v4 4 _ (by decide) (by decide) (by omega), t5, upd_at, y3]
          · rw [v4 5 _ (by decide) (by decide) (by omega), t6, upd_at, y4]
          · exact c2
          · rw [c3, y1, osm, Int32.add_assoc, nI_add]
    · have hf9 := hR.2.2.2.1
      have hl9 := hR.2.2.1
      refine aw rfl rfl ?_
      refine aw_c (v := nI 6) rfl (by decide) ?_
      refine aw_igtn rfl (fun c11 => by omega) (fun c11 => ?_)
      refine aw rfl rfl ?_
      refine aw_getfE rfl zg_40 rfl (congrArg Value.int hf9) ?_
      refine aw_nen rfl (fun c18 => ?_) (fun c18 => absurd c18 hf)
      rw [ots, if_neg (fun w => hf w.1)] at q
      exact l_otsE hz hkk hR (by omega) q
theorem c_X4_takeOutcomes {Q : Option Value → am_H → Prop} (hz : rf 2 = zq z) {kk : Nat} (hkk : kk < 4) (hR : RS Y K s) (q : ∀ K' T' y, RS Y K' (ots Y 6 s).2 → KQ K K' → TQ kk (6 * kk) T T' → ((ots Y 6 s).2.2.1.1 = 0 → T'.2 1 kk = nI (ots Y 6 s).1.length ∧ osR T' (6 * kk) (ots Y 6 s).1 ∧ y = nI (osm (ots Y 6 s).1)) → Q (some (.int y)) (cz z g T' u X K' rf)) : AC am_P 3 71 52 [.ref 40, .int (nI kk)] (cz z g T u X K rf) Q := by
  refine AC.of (ls := [_, _, _, _, _]) rfl ?_
  refine aw_c (v := nI 0) rfl (by decide) ?_
  refine aw_ist (ls' := [_, _, _, _, _]) rfl rfl ?_
  refine aw_c (v := nI 0) rfl (by decide) ?_
  refine aw_ist (ls' := [_, _, _, _, _]) rfl rfl ?_
  refine aw_c (v := nI 0) rfl (by decide) ?_
  refine aw_ist (ls' := [_, _, _, _, _]) rfl rfl ?_
  exact l_ots hz hkk 6 0 s K T (nI 0) rfl hR (fun K2 T2 y b1 b2 b3 b4 => q K2 T2 y b1 b2 b3 (fun hg => by
    obtain ⟨c1, c2, c3⟩ := b4 hg
    exact ⟨by rw [c1, Nat.zero_add], c2, by rw [c3]; exact Int32.zero_add _⟩))
end C1
