/-! ===== the reference's reader: tellRow ===== -/
section C1
variable {g : am_H} {k : Mk} {v pl : Nat → Int32} {br lo : Int32} {c ct pr pt cm bf bt : Nat → Int32}
variable {Y : Tk} {s : Ps}
variable {sd r : Nat}
theorem c_X11_tellRow {Q : Option Value → am_H → Prop} {w0 : Nat} (hs : sd < 2) (hr : r < 4) (hw0 : w0 ≤ 8) (hYN : YNm Y) (hR : RM Y k s) (hne : s.2.1.1 = 0 → ¬ Y.1 s.1 = 0) (h19 : k.1 19 = nI sd) (h22 : k.2.1 22 sd = nI r) (h23 : k.2.1 23 sd = nI w0) (q : ∀ k', RM Y k' (mu Y 4 (rwS Y r w0 s)) → KRw sd r k k' → ((mu Y 4 (rwS Y r w0 s)).2.1.1 = 0 → k'.2.1 22 sd = nI (r + 1) ∧ k'.2.1 23 sd = nI (rwW r w0 (Y.2.2.2 (go Y s).1)) ∧ ∀ i, i < (Y.2.2.2 (go Y s).1).length → k'.2.1 24 (32 * sd + 8 * r + i) = soL ((Y.2.2.2 (go Y s).1).getD i 0)) → Q none (mh g k' v pl br lo c ct pr pt cm bf bt)) : AC am_P 3 62 204 [.ref 121] (mh g k v pl br lo c ct pr pt cm bf bt) Q := by
  refine AC.of (ls := [_, _, _, _, _, _, _]) rfl ?_
  refine aw rfl rfl ?_
  refine aw_cv (d1 := 1) (L1 := 21) rfl rfl mg_121 rfl rfl (by decide) (by decide) (Nat.le_of_ble_eq_true rfl) (c_X11_goesOn hR hne (fun k1 hR1 hk1 => ?_))
  obtain ⟨tk, htk, h11, hgt⟩ : ∃ tk : Nat, tk ≤ 400 ∧ k1.1 11 = nI tk ∧ ((go Y s).2.1.1 = 0 → tk = (go Y s).1) := by
    by_cases hg : (go Y s).2.1.1 = 0
    · exact ⟨(go Y s).1, hR1.2.1, (hR1.2.2.2.2.1 hg).1, fun _ => rfl⟩
    · obtain ⟨_, _, t, h1, h2⟩ := hR1.2.2.2.2.2 hg
      exact ⟨t, h1, h2, fun w => absurd w hg⟩
  refine aw rfl rfl ?_
  refine aw_getfE rfl mg_121 rfl (congrArg Value.int h11) ?_
  refine aw_ist (ls' := [_, _, _, _, _, _, _]) rfl rfl ?_
  refine aw rfl rfl ?_
  refine aw_c (v := nI 1) rfl (by decide) ?_
  refine aw_cv (d1 := 2) (L1 := 41) rfl rfl mg_121 rfl rfl (by decide) (by decide) (Nat.le_of_ble_eq_true rfl) (c_mmu hR1 rfl (by decide) (fun k2 hR2 hk2 => ?_))
  have hf82 := hR2.2.2.1
  have hk2' := hk1.tr hk2
  have h192 : k2.1 19 = nI sd := by rw [hk2'.1 19 (by omega)]; exact h19
  have h222 : k2.2.1 22 sd = nI r := by rw [hk2'.2]; exact h22
  have h232 : k2.2.1 23 sd = nI w0 := by rw [hk2'.2]; exact h23
  refine aw rfl rfl ?_
  refine aw_getfE rfl mg_121 rfl (congrArg Value.int hR2.2.2.2.1) ?_
  refine aw_nen rfl (fun c18 => ?_) (fun c18 => ?_)
  · have e1 : rwS Y r w0 s = mu Y 1 (go Y s) := by
      unfold rwS
      rw [wr_f c18]
      split <;> rfl
    rw [e1] at q
    exact l_mrE (sd := sd) (r := r) hs hr hR2 h192 h222 (fun k3 hR3 hk3 _ => q k3 hR3 ((KM.rw hk2').tr hk3) (fun w => absurd (by rw [mu_f c18] at w; exact w) c18))
  · have hg0 : (go Y s).2.1.1 = 0 := Decidable.of_not_not (fun z => by rw [mu_f z] at c18; exact z c18)
    have h1 : Y.1 (go Y s).1 = 1 := Decidable.of_not_not (fun z => by
      unfold mu at c18
      rw [if_pos ⟨hg0, z⟩] at c18
      exact fl_0 (by decide) c18)
    have e9 := hgt hg0
    have hz := (hR1.2.2.2.2.1 hg0).2.1
    rw [← e9] at h1 hz
    obtain ⟨n1, n2⟩ := hYN tk htk hz h1
    have n3 := (hR2.1.1 tk htk hz).2.2.2 h1
    have hrw : ∀ W, rwW r w0 (Y.2.2.2 tk) = W → rwS Y r w0 s = (if rwX W (Y.2.2.2 tk) = true then wr 6 (Y.2.1 tk) (mu Y 1 (go Y s)) else mu Y 1 (go Y s)) := by
      intro W e
      rw [← e, e9]
      rfl
    rw [← e9] at q
    refine aw rfl rfl ?_
    refine aw_getf rfl mg_121 rfl ?_
    refine aw rfl rfl ?_
    refine aw_lald rfl mg_127 rfl (by omega) (by decide) ?_
    refine aw_lst (ls' := [_, _, _, _, _, _, _]) rfl rfl ?_
    refine aw_c (v := nI 0) rfl (by decide) ?_
    refine aw_ist (ls' := [_, _, _, _, _, _, _]) rfl rfl ?_
    refine aw rfl rfl ?_
    refine aw_lst (ls' := [_, _, _, _, _, _, _]) rfl rfl ?_
    rw [show k2.2.2 8 tk = Int64.ofNat (nr 27 (Y.2.2.2 tk).reverse) from n3]
    refine l_mrc (Y.2.2.2 tk).reverse 0 (fun c hc => by have := n1 c (List.mem_reverse.mp hc); omega) (by rw [List.length_reverse]; exact n2) (by rw [List.length_reverse]; omega) ?_
    rw [Nat.zero_add, List.length_reverse]
    have h78 : ∀ k3 W, rwW r w0 (Y.2.2.2 tk) = W → W ≤ 8 → RM Y k3 (mu Y 1 (go Y s)) → KRw sd r k k3 → k3.1 19 = nI sd → k3.2.1 22 sd = nI r → k3.2.1 23 sd = nI W → AW am_P 3 62 204 78 [some (.ref 121), some (.int (nI tk)), some (.long (Int64.ofNat (nr 27 (Y.2.2.2 tk).reverse))), none, some (.int (nI (Y.2.2.2 tk).length)), some (.long (Int64.ofNat 0)), none] [] (mh g k3 v pl br lo c ct pr pt cm bf bt) Q := by
      intro k3 W eW hW hR3 hk3 h193 h223 h233
      rw [hrw W eW, eW] at q
      have hl : ∀ c ∈ Y.2.2.2 tk, 1 ≤ c ∧ c < 27 := fun c hc => by have := n1 c hc; omega
      refine aw rfl rfl ?_
      refine aw rfl rfl ?_
      refine aw_getf rfl mg_121 rfl ?_
      refine aw rfl rfl ?_
      refine aw_getfE rfl mg_121 rfl (congrArg Value.int h193) ?_
      refine aw_ialdE rfl mg_131 rfl (by omega) (by decide) h233 ?_
      refine aw_ieqn rfl (fun c89 => ?_) (fun c89 => ?_)
      · exact l_mrT (sd := sd) (r := r) (bad := false) hs hr htk hz hl n2 hR3 (by rw [c89]; exact (decide_eq_false (fun w => w rfl)).symm) h193 h223 h233 (fun k5 hR5 hk5 ok5 => q k5 hR5 (hk3.tr hk5) ok5)
      · refine aw rfl rfl ?_
        refine aw_c (v := nI 6) rfl (by decide) ?_
        refine aw rfl rfl ?_
        refine aw_cv (d1 := 0) (L1 := 0) rfl rfl mg_121 rfl rfl (by decide) (by decide) (Nat.le_of_ble_eq_true rfl) (c_X11_wrong (t := tk) hR3 (by decide) htk (fun _ => hz) (fun k4 hR4 hk4 => ?_))
        exact l_mrT (sd := sd) (r := r) (bad := true) hs hr htk hz hl n2 hR4 (decide_eq_true c89).symm (by rw [hk4.1 19 (by omega)]; exact h193) (by rw [hk4.2]; exact h223) (by rw [hk4.2]; exact h233) (fun k5 hR5 hk5 ok5 => q k5 hR5 ((hk3.tr (KM.rw hk4)).tr hk5) ok5)
    refine aw rfl rfl ?_
    refine aw_getf rfl mg_121 rfl ?_
    refine aw rfl rfl ?_
    refine aw_getfE rfl mg_121 rfl (congrArg Value.int h192) ?_
    refine aw_ialdE rfl mg_130 rfl (by omega) (by decide) h222 ?_
    refine aw_nen rfl (fun c64 => ?_) (fun c64 => ?_)
    · exact h78 k2 w0 (if_neg c64) hw0 hR2 (KM.rw hk2') h192 h222 h232
    · refine aw rfl rfl ?_
      refine aw_getf rfl mg_121 rfl ?_
      refine aw rfl rfl ?_
      refine aw_getfE rfl mg_121 rfl (congrArg Value.int h192) ?_
      refine aw rfl rfl ?_
      refine aw_iastU rfl mg_131 rfl (by omega) (by decide) (by decide) mu_131 ?_
      have hU : KRw sd r k2 (k2.1, va_up k2.2.1 23 (upd (k2.2.1 23) sd (nI (Y.2.2.2 tk).length)), k2.2.2) := ⟨fun _ _ => rfl, fun n hn => vu_ot (by omega), fun i hi => ⟨rfl, upd_ne hi⟩, fun i _ => rfl, rfl⟩
      exact h78 _ (Y.2.2.2 tk).length (if_pos c64) n2 (hR2.kp hU.kp rfl (fun _ _ _ => rfl)) ((KM.rw hk2').tr hU) h192 h222 upd_at
end C1
