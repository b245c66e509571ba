/-! ===== the reference's reader: isThere ===== -/
section C1
variable {g : am_H} {k : Mk} {v pl : Nat → Int32} {br lo : Int32} {c ct pr pt cm bf bt : Nat → Int32}
variable {Y : Tk} {s : Ps}
variable {sd : Nat}
theorem c_mth32 {Q : Option Value → am_H → Prop} {a e z w r f : Nat} (hs : sd < 2) (h19 : k.1 19 = nI sd) (x0 : k.2.1 32 (3 * sd) = nI a) (x1 : k.2.1 32 (3 * sd + 1) = nI e) (x2 : k.2.1 32 (3 * sd + 2) = nI z) (hv : a < 10000 ∧ e < 10000 ∧ z < 10000) (hw : k.2.1 23 sd = nI w) (hr : k.2.1 22 sd = nI r) (hf : k.2.1 25 sd = nI f) (hb : w ≤ 8 ∧ r ≤ 4 ∧ f < 10000) (q1 : a < w → e < r → z < f → ¬ k.2.1 24 (32 * sd + 8 * e + a) = nI 4 → ¬ k.2.1 24 (32 * sd + 8 * e + a) = nI 5 → Q (some (.int (nI 1))) (mh g k v pl br lo c ct pr pt cm bf bt)) (q0 : ¬ (a < w ∧ e < r ∧ z < f ∧ ¬ k.2.1 24 (32 * sd + 8 * e + a) = nI 4 ∧ ¬ k.2.1 24 (32 * sd + 8 * e + a) = nI 5) → Q (some (.int (nI 0))) (mh g k v pl br lo c ct pr pt cm bf bt)) : AC am_P 0 0 218 [.ref 121, .ref 140] (mh g k v pl br lo c ct pr pt cm bf bt) Q := by
  refine AC.of (ls := [_, _, _, _, _]) rfl ?_
  obtain ⟨v1, v2, v3⟩ := hv
  obtain ⟨u1, u2, u3⟩ := hb
  refine aw rfl rfl ?_
  refine aw_c (v := nI 3) rfl (by decide) ?_
  refine aw rfl rfl ?_
  refine aw_getfE rfl mg_121 rfl (congrArg Value.int h19) ?_
  refine aw_muln rfl ?_
  refine aw_ialdE rfl mg_140 rfl (by omega) (by decide) x0 ?_
  refine aw_ist (ls' := [_, _, _, _, _]) rfl rfl ?_
  refine aw rfl rfl ?_
  refine aw_c (v := nI 3) rfl (by decide) ?_
  refine aw rfl rfl ?_
  refine aw_getfE rfl mg_121 rfl (congrArg Value.int h19) ?_
  refine aw_muln rfl ?_
  refine aw_c (v := nI 1) rfl (by decide) ?_
  refine aw_addn rfl ?_
  refine aw_ialdE rfl mg_140 rfl (by omega) (by decide) x1 ?_
  refine aw_ist (ls' := [_, _, _, _, _]) rfl rfl ?_
  refine aw rfl rfl ?_
  refine aw rfl rfl ?_
  refine aw_getf rfl mg_121 rfl ?_
  refine aw rfl rfl ?_
  refine aw_getfE rfl mg_121 rfl (congrArg Value.int h19) ?_
  refine aw_ialdE rfl mg_131 rfl (by omega) (by decide) hw ?_
  refine aw_igen rfl (fun c30 => ?_) (fun c30 => ?_)
  · refine aw_c (v := nI 0) rfl (by decide) ?_
    exact aw_iret rfl rfl (q0 (fun y => by omega))
  · refine aw rfl rfl ?_
    refine aw rfl rfl ?_
    refine aw_getf rfl mg_121 rfl ?_
    refine aw rfl rfl ?_
    refine aw_getfE rfl mg_121 rfl (congrArg Value.int h19) ?_
    refine aw_ialdE rfl mg_130 rfl (by omega) (by decide) hr ?_
    refine aw_igen rfl (fun c43 => ?_) (fun c43 => ?_)
    · refine aw_c (v := nI 0) rfl (by decide) ?_
      exact aw_iret rfl rfl (q0 (fun y => by omega))
    · refine aw rfl rfl ?_
      refine aw_c (v := nI 3) rfl (by decide) ?_
      refine aw rfl rfl ?_
      refine aw_getfE rfl mg_121 rfl (congrArg Value.int h19) ?_
      refine aw_muln rfl ?_
      refine aw_c (v := nI 2) rfl (by decide) ?_
      refine aw_addn rfl ?_
      refine aw_ialdE rfl mg_140 rfl (by omega) (by decide) x2 ?_
      refine aw rfl rfl ?_
      refine aw_getf rfl mg_121 rfl ?_
      refine aw rfl rfl ?_
      refine aw_getfE rfl mg_121 rfl (congrArg Value.int h19) ?_
      refine aw_ialdE rfl mg_133 rfl (by omega) (by decide) hf ?_
      refine aw_iltn rfl (fun c65 => ?_) (fun c65 => ?_)
      · refine aw rfl rfl ?_
        refine aw_getf rfl mg_121 rfl ?_
        refine aw_c (v := nI 32) rfl (by decide) ?_
        refine aw rfl rfl ?_
        refine aw_getfE rfl mg_121 rfl (congrArg Value.int h19) ?_
        refine aw_muln rfl ?_
        refine aw_c (v := nI 8) rfl (by decide) ?_
        refine aw rfl rfl ?_
        refine aw_muln rfl ?_
        refine aw_addn rfl ?_
        refine aw rfl rfl ?_
        refine aw_addn rfl ?_
        refine aw_iald rfl mg_132 rfl (by omega) (by decide) ?_
        refine aw_ist (ls' := [_, _, _, _, _]) rfl rfl ?_
        refine aw rfl rfl ?_
        refine aw_c (v := nI 4) rfl (by decide) ?_
        refine aw_ieq rfl (fun c94 => ?_) (fun c94 => ?_)
        · refine aw_c (v := nI 0) rfl (by decide) ?_
          exact aw_iret rfl rfl (q0 (fun y => y.2.2.2.1 c94))
        · refine aw rfl rfl ?_
          refine aw_c (v := nI 5) rfl (by decide) ?_
          refine aw_ieq rfl (fun c100 => ?_) (fun c100 => ?_)
          · refine aw_c (v := nI 0) rfl (by decide) ?_
            exact aw_iret rfl rfl (q0 (fun y => y.2.2.2.2 c100))
          · refine aw_c (v := nI 1) rfl (by decide) ?_
            refine aw rfl rfl ?_
            exact aw_iret rfl rfl (q1 (by omega) (by omega) c65 c94 c100)
      · refine aw_c (v := nI 0) rfl (by decide) ?_
        exact aw_iret rfl rfl (q0 (fun y => by omega))
theorem c_mth33 {Q : Option Value → am_H → Prop} {a e z w r f : Nat} (hs : sd < 2) (h19 : k.1 19 = nI sd) (x0 : k.2.1 33 (3 * sd) = nI a) (x1 : k.2.1 33 (3 * sd + 1) = nI e) (x2 : k.2.1 33 (3 * sd + 2) = nI z) (hv : a < 10000 ∧ e < 10000 ∧ z < 10000) (hw : k.2.1 23 sd = nI w) (hr : k.2.1 22 sd = nI r) (hf : k.2.1 25 sd = nI f) (hb : w ≤ 8 ∧ r ≤ 4 ∧ f < 10000) (q1 : a < w → e < r → z < f → ¬ k.2.1 24 (32 * sd + 8 * e + a) = nI 4 → ¬ k.2.1 24 (32 * sd + 8 * e + a) = nI 5 → Q (some (.int (nI 1))) (mh g k v pl br lo c ct pr pt cm bf bt)) (q0 : ¬ (a < w ∧ e < r ∧ z < f ∧ ¬ k.2.1 24 (32 * sd + 8 * e + a) = nI 4 ∧ ¬ k.2.1 24 (32 * sd + 8 * e + a) = nI 5) → Q (some (.int (nI 0))) (mh g k v pl br lo c ct pr pt cm bf bt)) : AC am_P 0 0 218 [.ref 121, .ref 141] (mh g k v pl br lo c ct pr pt cm bf bt) Q := by
  refine AC.of (ls := [_, _, _, _, _]) rfl ?_
  obtain ⟨v1, v2, v3⟩ := hv
  obtain ⟨u1, u2, u3⟩ := hb
  refine aw rfl rfl ?_
  refine aw_c (v := nI 3) rfl (by decide) ?_
  refine aw rfl rfl ?_
  refine aw_getfE rfl mg_121 rfl (congrArg Value.int h19) ?_
  refine aw_muln rfl ?_
  refine aw_ialdE rfl mg_141 rfl (by omega) (by decide) x0 ?_
  refine aw_ist (ls' := [_, _, _, _, _]) rfl rfl ?_
  refine aw rfl rfl ?_
  refine aw_c (v := nI 3) rfl (by decide) ?_
  refine aw rfl rfl ?_
  refine aw_getfE rfl mg_121 rfl (congrArg Value.int h19) ?_
  refine aw_muln rfl ?_
  refine aw_c (v := nI 1) rfl (by decide) ?_
  refine aw_addn rfl ?_
  refine aw_ialdE rfl mg_141 rfl (by omega) (by decide) x1 ?_
  refine aw_ist (ls' := [_, _, _, _, _]) rfl rfl ?_
  refine aw rfl rfl ?_
  refine aw rfl rfl ?_
  refine aw_getf rfl mg_121 rfl ?_
  refine aw rfl rfl ?_
  refine aw_getfE rfl mg_121 rfl (congrArg Value.int h19) ?_
  refine aw_ialdE rfl mg_131 rfl (by omega) (by decide) hw ?_
  refine aw_igen rfl (fun c30 => ?_) (fun c30 => ?_)
  · refine aw_c (v := nI 0) rfl (by decide) ?_
    exact aw_iret rfl rfl (q0 (fun y => by omega))
  · refine aw rfl rfl ?_
    refine aw rfl rfl ?_
    refine aw_getf rfl mg_121 rfl ?_
    refine aw rfl rfl ?_
    refine aw_getfE rfl mg_121 rfl (congrArg Value.int h19) ?_
    refine aw_ialdE rfl mg_130 rfl (by omega) (by decide) hr ?_
    refine aw_igen rfl (fun c43 => ?_) (fun c43 => ?_)
    · refine aw_c (v := nI 0) rfl (by decide) ?_
      exact aw_iret rfl rfl (q0 (fun y => by omega))
    · refine aw rfl rfl ?_
      refine aw_c (v := nI 3) rfl (by decide) ?_
      refine aw rfl rfl ?_
      refine aw_getfE rfl mg_121 rfl (congrArg Value.int h19) ?_
      refine aw_muln rfl ?_
      refine aw_c (v := nI 2) rfl (by decide) ?_
      refine aw_addn rfl ?_
      refine aw_ialdE rfl mg_141 rfl (by omega) (by decide) x2 ?_
      refine aw rfl rfl ?_
      refine aw_getf rfl mg_121 rfl ?_
      refine aw rfl rfl ?_
      refine aw_getfE rfl mg_121 rfl (congrArg Value.int h19) ?_
      refine aw_ialdE rfl mg_133 rfl (by omega) (by decide) hf ?_
      refine aw_iltn rfl (fun c65 => ?_) (fun c65 => ?_)
      · refine aw rfl rfl ?_
        refine aw_getf rfl mg_121 rfl ?_
        refine aw_c (v := nI 32) rfl (by decide) ?_
        refine aw rfl rfl ?_
        refine aw_getfE rfl mg_121 rfl (congrArg Value.int h19) ?_
        refine aw_muln rfl ?_
        refine aw_c (v := nI 8) rfl (by decide) ?_
        refine aw rfl rfl ?_
        refine aw_muln rfl ?_
        refine aw_addn rfl ?_
        refine aw rfl rfl ?_
        refine aw_addn rfl ?_
        refine aw_iald rfl mg_132 rfl (by omega) (by decide) ?_
        refine aw_ist (ls' := [_, _, _, _, _]) rfl rfl ?_
        refine aw rfl rfl ?_
        refine aw_c (v := nI 4) rfl (by decide) ?_
        refine aw_ieq rfl (fun c94 => ?_) (fun c94 => ?_)
        · refine aw_c (v := nI 0) rfl (by decide) ?_
          exact aw_iret rfl rfl (q0 (fun y => y.2.2.2.1 c94))
        · refine aw rfl rfl ?_
          refine aw_c (v := nI 5) rfl (by decide) ?_
          refine aw_ieq rfl (fun c100 => ?_) (fun c100 => ?_)
          · refine aw_c (v := nI 0) rfl (by decide) ?_
            exact aw_iret rfl rfl (q0 (fun y => y.2.2.2.2 c100))
          · refine aw_c (v := nI 1) rfl (by decide) ?_
            refine aw rfl rfl ?_
            exact aw_iret rfl rfl (q1 (by omega) (by omega) c65 c94 c100)
      · refine aw_c (v := nI 0) rfl (by decide) ?_
        exact aw_iret rfl rfl (q0 (fun y => by omega))
end C1
