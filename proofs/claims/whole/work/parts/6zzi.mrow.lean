/-! ===== the reference's reader: tellRow, its letters ===== -/
theorem gd_rl {c i : Nat} {r : List Nat} (h : i < r.length) : (c :: r).reverse.getD i 0 = r.reverse.getD i 0 := by
  rw [List.reverse_cons, List.getD_eq_getElem?_getD, List.getD_eq_getElem?_getD, List.getElem?_append_left (by rw [List.length_reverse]; exact h)]
theorem gd_re {c : Nat} {r : List Nat} : (c :: r).reverse.getD r.length 0 = c := by
  rw [List.reverse_cons, List.getD_eq_getElem?_getD, List.getElem?_append_right (by rw [List.length_reverse]; exact Nat.le_refl _), List.length_reverse, Nat.sub_self]
  rfl
theorem okR_c {c : Nat} {r : List Nat} : okR (c :: r) = (decide (¬ soL c = -1) && okR r) := rfl
section C1
variable {g : am_H} {k : Mk} {v pl : Nat → Int32} {br lo : Int32} {c ct pr pt cm bf bt : Nat → Int32}
variable {Y : Tk} {s : Ps}
theorem l_mrs {Q : Option Value → am_H → Prop} {sd r tk : Nat} {n4 : Int32} (hs : sd < 2) (hr : r < 4) (htk : tk ≤ 400) (hz : ∀ i, i < tk → ¬ Y.1 i = 0) : ∀ (l : List Nat) (k : Mk) (bad : Bool) (x : Int32) (o6 : Option Value) (_ : x = mn1 l.length) (_ : ∀ c ∈ l, 1 ≤ c ∧ c < 27) (_ : l.length ≤ 8) (_ : RM Y k (bif bad then wr 6 (Y.2.1 tk) s else s)) (_ : k.1 19 = nI sd) (_ : k.2.1 22 sd = nI r) (_ : ∀ k' X' x' o', RM Y k' (bif (bad || !okR l) then wr 6 (Y.2.1 tk) s else s) → KRo (32 * sd + 8 * r) ((32 * sd + 8 * r) + l.length) k k' → (∀ i, i < l.length → k'.2.1 24 ((32 * sd + 8 * r) + i) = soL (l.reverse.getD i 0)) → AW am_P 3 62 204 178 [some (.ref 121), some (.int (nI tk)), some (.long X'), none, some (.int n4), some (.int x'), o'] [] (mh g k' v pl br lo c ct pr pt cm bf bt) Q), AW am_P 3 62 204 105 [some (.ref 121), some (.int (nI tk)), some (.long (Int64.ofNat (nr 27 l))), none, some (.int n4), some (.int x), o6] [] (mh g k v pl br lo c ct pr pt cm bf bt) Q := by
  intro l
  induction l with
  | nil =>
    intro k bad x o6 hx hl h8 hR h19 h22 q
    have hx : x = -1 := hx
    subst hx
    refine aw rfl rfl ?_
    refine aw_lt rfl (fun _ => ?_) (fun c => absurd (by decide) c)
    rw [show (bad || !okR []) = bad from Bool.or_false bad] at q
    exact q k _ _ _ hR (KM.ro KM.rf) (fun i hi => absurd hi (Nat.not_lt_zero _))
  | cons a0 w ih =>
    intro k bad x o6 hx hl h8 hR h19 h22 q
    have hx : x = nI w.length := hx
    subst hx
    have hL : (a0 :: w).length = w.length + 1 := rfl
    have hc := hl a0 (List.mem_cons_self ..)
    have hlt : nr 27 w * 27 + a0 < 1000000000000 := n27_lt hl h8
    rw [show nr 27 (a0 :: w) = nr 27 w * 27 + a0 from rfl]
    have hend : ∀ k1 bad1, RM Y k1 (bif bad1 then wr 6 (Y.2.1 tk) s else s) → KM k k1 → (bad || !okR (a0 :: w)) = (bad1 || !okR w) → AW am_P 3 62 204 136 [some (.ref 121), some (.int (nI tk)), some (.long (Int64.ofNat (nr 27 w * 27 + a0))), none, some (.int n4), some (.int (nI w.length)), some (.int (soL a0))] [] (mh g k1 v pl br lo c ct pr pt cm bf bt) Q := by
      intro k1 bad1 hR1 hk1 e1
      have h191 : k1.1 19 = nI sd := by rw [hk1.1 19 (by omega)]; exact h19
      have h221 : k1.2.1 22 sd = nI r := by rw [hk1.2]; exact h22
      have hU : KRo (32 * sd + 8 * r) ((32 * sd + 8 * r) + (a0 :: w).length) k1 (k1.1, va_up k1.2.1 24 (upd (k1.2.1 24) (32 * sd + 8 * r + w.length) (soL a0)), k1.2.2) := ⟨fun _ _ => rfl, fun n hn => vu_ot hn, fun i hi => upd_ne (by omega), rfl⟩
      refine aw rfl rfl ?_
      refine aw_getf rfl mg_121 rfl ?_
      refine aw_c (v := nI 32) rfl (by decide) ?_
      refine aw rfl rfl ?_
      refine aw_getfE rfl mg_121 rfl (congrArg Value.int h191) ?_
      refine aw_muln rfl ?_
      refine aw_c (v := nI 8) rfl (by decide) ?_
      refine aw rfl rfl ?_
      refine aw_getf rfl mg_121 rfl ?_
      refine aw rfl rfl ?_
      refine aw_getfE rfl mg_121 rfl (congrArg Value.int h191) ?_
      refine aw_ialdE rfl mg_130 rfl (by omega) (by decide) h221 ?_
      refine aw_muln rfl ?_
      refine aw_addn rfl ?_
      refine aw rfl rfl ?_
      refine aw_addn rfl ?_
      refine aw rfl rfl ?_
      refine aw_iastU rfl mg_132 rfl (by omega) (by decide) (by decide) mu_132 ?_
      refine aw rfl rfl ?_
      refine aw rfl rfl ?_
      refine aw_ldiv rfl (by decide) ?_
      refine aw_lst (ls' := [_, _, _, _, _, _, _]) rfl rfl ?_
      refine aw_inc (c := -1) (ls' := [_, _, _, _, _, _, _]) rfl rfl (by decide) rfl ?_
      refine aw rfl rfl ?_
      rw [l27d hc.2 hlt]
      refine ih (k1.1, va_up k1.2.1 24 (upd (k1.2.1 24) (32 * sd + 8 * r + w.length) (soL a0)), k1.2.2) bad1 _ _ (mn1_d _) (fun a h => hl a (List.mem_cons_of_mem _ h)) (by omega) (hR1.kp hU.kp rfl (fun _ _ _ => rfl)) h191 h221 (fun k3 X3 x3 o3 hR3 hk3 sq3 => ?_)
      refine q k3 X3 x3 o3 (by rw [e1]; exact hR3) (((KM.ro hk1).tr hU (Nat.le_refl _)).tr hk3 (by omega)) (fun i hi => ?_)
      by_cases hi2 : i < w.length
      · rw [gd_rl hi2]; exact sq3 i hi2
      · have e2 : i = w.length := by omega
        subst e2
        rw [gd_re, hk3.2.2.1 _ (Or.inr (Nat.le_refl _))]
        exact upd_at
    refine aw rfl rfl ?_
    refine aw_ltn rfl ?_
    refine aw_c (v := nI 96) rfl (by decide) ?_
    refine aw rfl rfl ?_
    refine aw rfl rfl ?_
    refine aw_lrem rfl (by decide) ?_
    refine aw rfl rfl ?_
    refine aw rfl rfl ?_
    rw [l27m hc.2 hlt, l27i a0 hc.2, nI_add]
    refine aw_cs (d1 := 0) (L1 := 0) rfl rfl (by decide) (by decide) (Nat.le_of_ble_eq_true rfl) (c_X11_sortBy hc.2 ?_)
    refine aw_ist (ls' := [_, _, _, _, _, _, _]) rfl rfl ?_
    refine aw rfl rfl ?_
    refine aw_ge rfl (fun c126 => ?_) (fun c126 => ?_)
    · have e1 : ¬ soL a0 = -1 := fun w => absurd ((soL_m a0).mpr w) (Int32.not_lt.mpr c126)
      exact hend k bad hR KM.rf (by rw [okR_c, decide_eq_true e1, Bool.true_and])
    · refine aw rfl rfl ?_
      refine aw_c (v := nI 6) rfl (by decide) ?_
      refine aw rfl rfl ?_
      refine aw_cv (d1 := 0) (L1 := 0) rfl rfl mg_121 rfl rfl (by decide) (by decide) (Nat.le_of_ble_eq_true rfl) (c_X11_wrong (t := tk) hR (by decide) htk (fun _ => hz) (fun k1 hR1 hk1 => ?_))
      have e1 : soL a0 = -1 := (soL_m a0).mp (Int32.not_le.mp c126)
      refine hend k1 true ?_ hk1 (by rw [okR_c, decide_eq_false (fun w => w e1)]; cases bad <;> rfl)
      cases bad
      · exact hR1
      · have w9 : wr 6 (Y.2.1 tk) (bif true then wr 6 (Y.2.1 tk) s else s) = wr 6 (Y.2.1 tk) s := wr_i
        rw [w9] at hR1; exact hR1
end C1
