/-! ===== the reference cuts a text: its runs ===== -/
def nmN (x : Nat → Int32) (i j : Nat) : Nat := nr 27 (ltL x i (min j 8)).reverse
section B1
variable {x : Nat → Int32} {i j : Nat}
theorem nmN_s (h : j < 8) : nmN x i (j + 1) = nmN x i j * 27 + cN9 (x (i + j)) := by
  unfold nmN
  rw [show min (j + 1) 8 = j + 1 by omega, show min j 8 = j by omega, ltL_sn, List.reverse_append]
  rfl
theorem nmN_8 (h : 8 ≤ j) : nmN x i (j + 1) = nmN x i j := by
  unfold nmN
  rw [show min (j + 1) 8 = 8 by omega, show min j 8 = 8 by omega]
theorem nmN_e (h : j ≤ 8) : Int64.ofNat (nmN x i j) = n27 (ltL x i j) := by
  unfold nmN n27
  rw [show min j 8 = j by omega]
theorem sgC_3 (y : Int32) : 3 ≤ sgC y := by
  unfold sgC
  repeat' split
  all_goals omega
theorem wkC_2 (L : List Nat) : ¬ wkC L = 2 := by
  unfold wkC
  cases wiC wdsC 0 L with
  | none => show ¬ (if L.length ≤ 8 then 1 else 3) = 2; split <;> omega
  | some c => show ¬ 20 + cwR c = 2; omega
end B1
section C1
variable {g : am_H} {k : Mk} {v pl : Nat → Int32} {br lo : Int32} {c ct pr pt cm bf bt : Nat → Int32}
variable {Y : Tk} {s : Ps}
variable {n i : Nat} {x : Nat → Int32}
set_option maxRecDepth 4000 in
theorem l_wl {Q : Option Value → am_H → Prop} {y2 : Int32} {o6 o7 : Option Value} (h4 : k.1 4 = nI n) (hx : k.2.1 3 = x) (hn : n ≤ 2000) (hb : ∀ j, j < n → b8 (x j)) (hi : i < n) (kk : AW am_P 2 49 195 124 [some (.ref 121), some (.int (nI i)), some (.int y2), some (.int (nI (run ltB x n i - i))), some (.long (Int64.ofNat (nmN x i (run ltB x n i - i)))), none, o6, o7] [] (mh g k v pl br lo c ct pr pt cm bf bt) Q) : AW am_P 2 49 195 85 [some (.ref 121), some (.int (nI i)), some (.int y2), some (.int (nI 0)), some (.long (Int64.ofNat 0)), none, o6, o7] [] (mh g k v pl br lo c ct pr pt cm bf bt) Q := by
  have hlo := run_lo (P := ltB) (x := x) (n := n) (i := i)
  have hhi := run_hi (P := ltB) (x := x) (n := n) (i := i) (Nat.le_of_lt hi)
  have hst := run_st (P := ltB) (x := x) (n := n) _ i rfl
  refine aw_loop (α := Unit) (ll := fun j y => [some (.ref 121), some (.int (nI i)), some (.int y2), some (.int (nI j)), some (.long (Int64.ofNat (nmN x i j))), none, o6, o7]) (hh := fun j y => (mh g k v pl br lo c ct pr pt cm bf bt)) (I := fun j y => True) (N := (run ltB x n i - i)) (fun j y hj hI ih => ?_) (fun y hI => ?_) 0 () (Nat.zero_le _) trivial
  · have hin := run_in (P := ltB) (x := x) (n := n) (i := i) (j := i + j) (by omega) (by omega)
    have hlc := lt_n hin.1
    refine aw rfl rfl ?_
    refine aw rfl rfl ?_
    refine aw rfl rfl ?_
    refine aw_addn rfl ?_
    refine aw_cv (d1 := 0) (L1 := 0) rfl rfl mg_121 rfl rfl (by decide) (by decide) (Nat.le_of_ble_eq_true rfl) (c_X11_byteAt h4 hx hn (by omega) ?_)
    refine aw_cs (d1 := 0) (L1 := 0) rfl rfl (by decide) (by decide) (Nat.le_of_ble_eq_true rfl) (c_X11_isLetter (fun hl => ?_) (fun hl => ?_))
    · refine aw_eq rfl (fun c => absurd c (by decide)) (fun _ => ?_)
      refine aw rfl rfl ?_
      refine aw_c (v := nI 8) rfl (by decide) ?_
      refine aw_igen rfl (fun c101 => ?_) (fun c101 => ?_)
      · refine aw_incn (c := 1) (ls' := [_, _, _, _, _, _, _, _]) rfl rfl (by decide) rfl ?_
        refine aw rfl rfl ?_
        have ih := ih () trivial
        rw [nmN_8 (by omega)] at ih
        exact ih
      · refine aw rfl rfl ?_
        refine aw rfl rfl ?_
        refine aw rfl rfl ?_
        refine aw rfl rfl ?_
        refine aw_addn rfl ?_
        refine aw_cv (d1 := 0) (L1 := 0) rfl rfl mg_121 rfl rfl (by decide) (by decide) (Nat.le_of_ble_eq_true rfl) (c_X11_byteAt h4 hx hn (by omega) ?_)
        rw [bAt_le hb hin.2 hin.1]
        refine aw_cs (d1 := 0) (L1 := 0) rfl rfl (by decide) (by decide) (Nat.le_of_ble_eq_true rfl) (c_X11_appends (a := nmN x i j) (c := cN9 (x (i + j))) ⟨hlc.2.1, hlc.2.2⟩ ?_)
        refine aw_lst (ls' := [_, _, _, _, _, _, _, _]) rfl rfl ?_
        refine aw_incn (c := 1) (ls' := [_, _, _, _, _, _, _, _]) rfl rfl (by decide) rfl ?_
        refine aw rfl rfl ?_
        have ih := ih () trivial
        rw [nmN_s (by omega)] at ih
        exact ih
    · refine aw_eq rfl (fun _ => ?_) (fun c => absurd (by decide) c)
      exact absurd ((bAt_lt hb).mpr ⟨hin.2, hin.1⟩) hl
  · skip
    refine aw rfl rfl ?_
    refine aw rfl rfl ?_
    refine aw rfl rfl ?_
    refine aw_addn rfl ?_
    refine aw_cv (d1 := 0) (L1 := 0) rfl rfl mg_121 rfl rfl (by decide) (by decide) (Nat.le_of_ble_eq_true rfl) (c_X11_byteAt h4 hx hn (by omega) ?_)
    refine aw_cs (d1 := 0) (L1 := 0) rfl rfl (by decide) (by decide) (Nat.le_of_ble_eq_true rfl) (c_X11_isLetter (fun hl => absurd ((bAt_lt hb).mp hl) (by rw [show i + (run ltB x n i - i) = run ltB x n i by omega]; exact hst)) (fun hl => ?_))
    · refine aw_eq rfl (fun _ => ?_) (fun c => absurd (by decide) c)
      exact kk
set_option maxRecDepth 4000 in
theorem l_dl {Q : Option Value → am_H → Prop} {y2 : Int32} {o5 o6 o7 : Option Value} (h4 : k.1 4 = nI n) (hx : k.2.1 3 = x) (hn : n ≤ 2000) (hb : ∀ j, j < n → b8 (x j)) (hi : i < n) (kk : AW am_P 2 49 195 250 [some (.ref 121), some (.int (nI i)), some (.int y2), some (.int (nI (run dgB x n i - i))), some (.int (nI (dv x i (min (run dgB x n i - i) 4)))), o5, o6, o7] [] (mh g k v pl br lo c ct pr pt cm bf bt) Q) : AW am_P 2 49 195 208 [some (.ref 121), some (.int (nI i)), some (.int y2), some (.int (nI 0)), some (.int (nI 0)), o5, o6, o7] [] (mh g k v pl br lo c ct pr pt cm bf bt) Q := by
  have hlo := run_lo (P := dgB) (x := x) (n := n) (i := i)
  have hhi := run_hi (P := dgB) (x := x) (n := n) (i := i) (Nat.le_of_lt hi)
  have hst := run_st (P := dgB) (x := x) (n := n) _ i rfl
  refine aw_loop (α := Unit) (ll := fun j y => [some (.ref 121), some (.int (nI i)), some (.int y2), some (.int (nI j)), some (.int (nI (dv x i (min j 4)))), o5, o6, o7]) (hh := fun j y => (mh g k v pl br lo c ct pr pt cm bf bt)) (I := fun j y => True) (N := (run dgB x n i - i)) (fun j y hj hI ih => ?_) (fun y hI => ?_) 0 () (Nat.zero_le _) trivial
  · have hin := run_in (P := dgB) (x := x) (n := n) (i := i) (j := i + j) (by omega) (by omega)
    have hdc := dg_n hin.1
    refine aw rfl rfl ?_
    refine aw rfl rfl ?_
    refine aw rfl rfl ?_
    refine aw_addn rfl ?_
    refine aw_cv (d1 := 0) (L1 := 0) rfl rfl mg_121 rfl rfl (by decide) (by decide) (Nat.le_of_ble_eq_true rfl) (c_X11_byteAt h4 hx hn (by omega) ?_)
    refine aw_cs (d1 := 0) (L1 := 0) rfl rfl (by decide) (by decide) (Nat.le_of_ble_eq_true rfl) (c_X11_isDigit (fun hl => ?_) (fun hl => ?_))
    · refine aw_eq rfl (fun c => absurd c (by decide)) (fun _ => ?_)
      refine aw rfl rfl ?_
      refine aw_c (v := nI 4) rfl (by decide) ?_
      refine aw_igen rfl (fun c223 => ?_) (fun c223 => ?_)
      · refine aw_incn (c := 1) (ls' := [_, _, _, _, _, _, _, _]) rfl rfl (by decide) rfl ?_
        refine aw rfl rfl ?_
        have ih := ih () trivial
        rw [show min (j + 1) 4 = min j 4 by omega] at ih
        exact ih
      · refine aw_c (v := nI 10) rfl (by decide) ?_
        refine aw rfl rfl ?_
        refine aw_muln rfl ?_
        refine aw rfl rfl ?_
        refine aw rfl rfl ?_
        refine aw rfl rfl ?_
        refine aw_addn rfl ?_
        refine aw_cv (d1 := 0) (L1 := 0) rfl rfl mg_121 rfl rfl (by decide) (by decide) (Nat.le_of_ble_eq_true rfl) (c_X11_byteAt h4 hx hn (by omega) ?_)
        rw [bAt_de hb hin.2 hin.1]
        refine aw_addn rfl ?_
        refine aw_c (v := nI 48) rfl (by decide) ?_
        refine aw_subn rfl (by omega) ?_
        refine aw_ist (ls' := [_, _, _, _, _, _, _, _]) rfl rfl ?_
        refine aw_incn (c := 1) (ls' := [_, _, _, _, _, _, _, _]) rfl rfl (by decide) rfl ?_
        refine aw rfl rfl ?_
        have ih := ih () trivial
        rw [show min (j + 1) 4 = j + 1 by omega, dv, show dv x i j * 10 + dN (x (i + j)) = 10 * dv x i (min j 4) + (48 + dN (x (i + j))) - 48 by rw [show min j 4 = j by omega]; omega] at ih
        exact ih
    · refine aw_eq rfl (fun _ => ?_) (fun c => absurd (by decide) c)
      exact absurd ((bAt_dg hb).mpr ⟨hin.2, hin.1⟩) hl
  · skip
    refine aw rfl rfl ?_
    refine aw rfl rfl ?_
    refine aw rfl rfl ?_
    refine aw_addn rfl ?_
    refine aw_cv (d1 := 0) (L1 := 0) rfl rfl mg_121 rfl rfl (by decide) (by decide) (Nat.le_of_ble_eq_true rfl) (c_X11_byteAt h4 hx hn (by omega) ?_)
    refine aw_cs (d1 := 0) (L1 := 0) rfl rfl (by decide) (by decide) (Nat.le_of_ble_eq_true rfl) (c_X11_isDigit (fun hl => absurd ((bAt_dg hb).mp hl) (by rw [show i + (run dgB x n i - i) = run dgB x n i by omega]; exact hst)) (fun hl => ?_))
    · refine aw_eq rfl (fun _ => ?_) (fun c => absurd (by decide) c)
      exact kk
set_option maxRecDepth 4000 in
theorem l_kl {Q : Option Value → am_H → Prop} {L : List Nat} {o1 o2 o3 : Option Value} (hK : KY k) (hL : ltO L) (hl : L.length ≤ 7) (kk : AW am_P 2 49 195 179 [some (.ref 121), o1, o2, o3, some (.long (n27 L)), none, some (.int (nI (wkC L))), some (.int (nI 23))] [] (mh g k v pl br lo c ct pr pt cm bf bt) Q) : AW am_P 2 49 195 146 [some (.ref 121), o1, o2, o3, some (.long (n27 L)), none, some (.int (nI 1)), some (.int (nI 0))] [] (mh g k v pl br lo c ct pr pt cm bf bt) Q := by
  rw [← kwL_k hl] at kk
  refine aw_loop (α := Unit) (ll := fun j y => [some (.ref 121), o1, o2, o3, some (.long (n27 L)), none, some (.int (nI (kwL L j))), some (.int (nI j))]) (hh := fun j y => (mh g k v pl br lo c ct pr pt cm bf bt)) (I := fun j y => True) (N := 23) (fun j y hj hI ih => ?_) (fun y hI => ?_) 0 () (Nat.zero_le _) trivial
  · have hkj : k.2.2 9 j = n27 (wdsR.getD j []) := (hK j hj).trans (wdR_k j hj)
    have hok := wdR_ok j hj
    have hin := n27_inj hok.1 hL hok.2 (by omega : L.length ≤ 8)
    refine aw rfl rfl ?_
    refine aw_c (v := nI 23) rfl (by decide) ?_
    refine aw_igen rfl (fun c150 => by omega) (fun c150 => ?_)
    refine aw rfl rfl ?_
    refine aw_getf rfl mg_121 rfl ?_
    refine aw rfl rfl ?_
    refine aw_lald rfl mg_128 rfl (by omega) (by decide) ?_
    refine aw rfl rfl ?_
    refine aw rfl rfl ?_
    refine aw_ne rfl (fun c163 => ?_) (fun c163 => ?_)
    · refine aw_incn (c := 1) (ls' := [_, _, _, _, _, _, _, _]) rfl rfl (by decide) rfl ?_
      refine aw rfl rfl ?_
      have ih := ih () trivial
      rw [kwL, if_neg (fun w => c163 ((lg_cmp_eq _ _).mpr (hkj.trans (hin.mpr w))))] at ih
      exact ih
    · refine aw_c (v := nI 20) rfl (by decide) ?_
      refine aw rfl rfl ?_
      refine aw_addn rfl ?_
      refine aw_ist (ls' := [_, _, _, _, _, _, _, _]) rfl rfl ?_
      refine aw_incn (c := 1) (ls' := [_, _, _, _, _, _, _, _]) rfl rfl (by decide) rfl ?_
      refine aw rfl rfl ?_
      have ih := ih () trivial
      rw [kwL, if_pos (hin.mp (hkj.symm.trans ((lg_cmp_eq _ _).mp c163)))] at ih
      exact ih
  · skip
    refine aw rfl rfl ?_
    refine aw_c (v := nI 23) rfl (by decide) ?_
    refine aw_igen rfl (fun c150 => ?_) (fun c150 => by omega)
    exact kk
end C1
