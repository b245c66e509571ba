/-! ===== the reference: leaves ===== -/
section M1
variable {g : am_H} {k : Mk} {v pl : Nat → Int32} {br lo : Int32} {c ct pr pt cm bf bt : Nat → Int32}
theorem c_X11_in {Q : Option Value → am_H → Prop} {x a b : Int32} (q1 : a ≤ x → x ≤ b → Q (some (.int (nI 1))) (mh g k v pl br lo c ct pr pt cm bf bt)) (q0 : (¬ a ≤ x ∨ ¬ x ≤ b) → Q (some (.int (nI 0))) (mh g k v pl br lo c ct pr pt cm bf bt)) : AC am_P 0 0 230 [.int x, .int a, .int b] (mh g k v pl br lo c ct pr pt cm bf bt) Q := by
  refine AC.of (ls := [_, _, _]) rfl ?_
  refine aw rfl rfl ?_
  refine aw rfl rfl ?_
  refine aw_ilt rfl (fun c2 => ?_) (fun c2 => ?_)
  · refine aw_c (v := nI 0) rfl (by decide) ?_
    exact aw_iret rfl rfl (q0 (Or.inl (Int32.not_le.mpr c2)))
  · refine aw rfl rfl ?_
    refine aw rfl rfl ?_
    refine aw_igt rfl (fun c7 => ?_) (fun c7 => ?_)
    · refine aw_c (v := nI 0) rfl (by decide) ?_
      exact aw_iret rfl rfl (q0 (Or.inr (Int32.not_le.mpr c7)))
    · refine aw_c (v := nI 1) rfl (by decide) ?_
      refine aw rfl rfl ?_
      exact aw_iret rfl rfl (q1 (Int32.not_lt.mp c2) (Int32.not_lt.mp c7))
theorem c_X11_numberOf {Q : Option Value → am_H → Prop} {a e f w : Nat} (q : Q (some (.int (nI (((8 * e + a) * 3 + f) * 4 + w)))) (mh g k v pl br lo c ct pr pt cm bf bt)) : AC am_P 0 0 222 [.int (nI a), .int (nI e), .int (nI f), .int (nI w)] (mh g k v pl br lo c ct pr pt cm bf bt) Q := by
  refine AC.of (ls := [_, _, _, _]) rfl ?_
  refine aw_c (v := nI 8) rfl (by decide) ?_
  refine aw rfl rfl ?_
  refine aw_muln rfl ?_
  refine aw rfl rfl ?_
  refine aw_addn rfl ?_
  refine aw_c (v := nI 3) rfl (by decide) ?_
  refine aw_muln rfl ?_
  refine aw rfl rfl ?_
  refine aw_addn rfl ?_
  refine aw_c (v := nI 4) rfl (by decide) ?_
  refine aw_muln rfl ?_
  refine aw rfl rfl ?_
  refine aw_addn rfl ?_
  exact aw_iret rfl rfl q
theorem c_X11_alongOf {Q : Option Value → am_H → Prop} {s : Nat} (hs : s < 2147483648) (q : Q (some (.int (nI (s / 12 % 8)))) (mh g k v pl br lo c ct pr pt cm bf bt)) : AC am_P 0 0 225 [.int (nI s)] (mh g k v pl br lo c ct pr pt cm bf bt) Q := by
  refine AC.of (ls := [_]) rfl ?_
  refine aw rfl rfl ?_
  refine aw_c (v := nI 12) rfl (by decide) ?_
  refine aw_divn rfl (by omega) (by omega) (by omega) ?_
  refine aw_c (v := nI 8) rfl (by decide) ?_
  refine aw_remn rfl (by omega) (by omega) (by omega) ?_
  exact aw_iret rfl rfl q
theorem c_X11_acrossOf {Q : Option Value → am_H → Prop} {s : Nat} (hs : s < 2147483648) (q : Q (some (.int (nI (s / 96)))) (mh g k v pl br lo c ct pr pt cm bf bt)) : AC am_P 0 0 226 [.int (nI s)] (mh g k v pl br lo c ct pr pt cm bf bt) Q := by
  refine AC.of (ls := [_]) rfl ?_
  refine aw rfl rfl ?_
  refine aw_c (v := nI 96) rfl (by decide) ?_
  refine aw_divn rfl (by omega) (by omega) (by omega) ?_
  exact aw_iret rfl rfl q
theorem c_X11_faceOf {Q : Option Value → am_H → Prop} {s : Nat} (hs : s < 2147483648) (q : Q (some (.int (nI (s / 4 % 3)))) (mh g k v pl br lo c ct pr pt cm bf bt)) : AC am_P 0 0 240 [.int (nI s)] (mh g k v pl br lo c ct pr pt cm bf bt) Q := by
  refine AC.of (ls := [_]) rfl ?_
  refine aw rfl rfl ?_
  refine aw_c (v := nI 4) rfl (by decide) ?_
  refine aw_divn rfl (by omega) (by omega) (by omega) ?_
  refine aw_c (v := nI 3) rfl (by decide) ?_
  refine aw_remn rfl (by omega) (by omega) (by omega) ?_
  exact aw_iret rfl rfl q
theorem c_X11_sortAt {Q : Option Value → am_H → Prop} {a e lv : Nat} (hl : k.1 18 = nI lv) (hi : 32 * lv + 8 * e + a < 64) (q : Q (some (.int (k.2.1 24 (32 * lv + 8 * e + a)))) (mh g k v pl br lo c ct pr pt cm bf bt)) : AC am_P 0 0 227 [.ref 121, .int (nI a), .int (nI e)] (mh g k v pl br lo c ct pr pt cm bf bt) Q := by
  refine AC.of (ls := [_, _, _]) rfl ?_
  refine aw rfl rfl ?_
  refine aw_getf rfl mg_121 rfl ?_
  refine aw_c (v := nI 32) rfl (by decide) ?_
  refine aw rfl rfl ?_
  refine aw_getfE rfl mg_121 rfl (congrArg Value.int hl) ?_
  refine aw_muln rfl ?_
  refine aw_c (v := nI 8) rfl (by decide) ?_
  refine aw rfl rfl ?_
  refine aw_muln rfl ?_
  refine aw_addn rfl ?_
  refine aw rfl rfl ?_
  refine aw_addn rfl ?_
  refine aw_iald rfl mg_132 rfl (by omega) (by decide) ?_
  exact aw_iret rfl rfl q
end M1
