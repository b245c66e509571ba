/-! ===== the reference's reader: tellRow, whole ===== -/
theorem mn1_s (n : Nat) : nI n - nI 1 = mn1 n := by rw [Int32.sub_eq_add_neg, show -nI 1 = -1 by decide, mn1_d]
def KRw (sd r : Nat) (k k' : Mk) : Prop := (∀ n, ¬ (n = 11 ∨ (13 ≤ n ∧ n ≤ 16)) → k'.1 n = k.1 n) ∧ (∀ n, n < 22 ∨ 24 < n → k'.2.1 n = k.2.1 n) ∧ (∀ i, ¬ i = sd → k'.2.1 22 i = k.2.1 22 i ∧ k'.2.1 23 i = k.2.1 23 i) ∧ (∀ i, i < 32 * sd + 8 * r ∨ 32 * sd + 8 * r + 8 ≤ i → k'.2.1 24 i = k.2.1 24 i) ∧ k'.2.2 = k.2.2
theorem KM.rw {sd r : Nat} {k k' : Mk} (h : KM k k') : KRw sd r k k' := ⟨h.1, fun n _ => by rw [h.2], fun i _ => by rw [h.2]; exact ⟨rfl, rfl⟩, fun i _ => by rw [h.2], by rw [h.2]⟩
theorem KRo.rw {sd r hi : Nat} {k k' : Mk} (h : KRo (32 * sd + 8 * r) hi k k') (hh : hi ≤ 32 * sd + 8 * r + 8) : KRw sd r k k' := ⟨h.1, fun n hn => h.2.1 n (by omega), fun i _ => ⟨by rw [h.2.1 22 (by decide)], by rw [h.2.1 23 (by decide)]⟩, fun i a => h.2.2.1 i (by omega), h.2.2.2⟩
theorem KRw.tr {sd r : Nat} {k k1 k2 : Mk} (h : KRw sd r k k1) (h1 : KRw sd r k1 k2) : KRw sd r k k2 := ⟨fun n hn => (h1.1 n hn).trans (h.1 n hn), fun n hn => (h1.2.1 n hn).trans (h.2.1 n hn), fun i hi => ⟨(h1.2.2.1 i hi).1.trans (h.2.2.1 i hi).1, (h1.2.2.1 i hi).2.trans (h.2.2.1 i hi).2⟩, fun i a => (h1.2.2.2.1 i a).trans (h.2.2.2.1 i a), h1.2.2.2.2.trans h.2.2.2.2⟩
theorem KRw.kp {sd r : Nat} {k k' : Mk} (h : KRw sd r k k') : KP k k' := ⟨fun n hn => h.1 n (by omega), fun n hn => h.2.1 n (by omega), fun n _ => by rw [h.2.2.2.2]⟩
section C1
variable {g : am_H} {k : Mk} {v pl : Nat → Int32} {br lo : Int32} {c ct pr pt cm bf bt : Nat → Int32}
variable {Y : Tk} {s : Ps}
variable {sd r : Nat}
theorem l_mrE {Q : Option Value → am_H → Prop} {k : Mk} {a1 a2 a3 a4 a5 a6 : Option Value} (hs : sd < 2) (hr : r < 4) (hR : RM Y k s) (h19 : k.1 19 = nI sd) (h22 : k.2.1 22 sd = nI r) (q : ∀ k', RM Y k' (mu Y 4 s) → KRw sd r k k' → ((mu Y 4 s).2.1.1 = 0 → k'.2.1 22 sd = nI (r + 1) ∧ k'.2.1 23 = k.2.1 23 ∧ k'.2.1 24 = k.2.1 24) → Q none (mh g k' v pl br lo c ct pr pt cm bf bt)) : AW am_P 3 62 204 178 [some (.ref 121), a1, a2, a3, a4, a5, a6] [] (mh g k v pl br lo c ct pr pt cm bf bt) Q := by
  refine aw rfl rfl ?_
  refine aw_c (v := nI 4) rfl (by decide) ?_
  refine aw_cv (d1 := 2) (L1 := 41) rfl rfl mg_121 rfl rfl (by decide) (by decide) (Nat.le_of_ble_eq_true rfl) (c_mmu hR rfl (by decide) (fun k1 hR1 hk1 => ?_))
  have hf81 := hR1.2.2.1
  have h191 : k1.1 19 = nI sd := by rw [hk1.1 19 (by omega)]; exact h19
  have h221 : k1.2.1 22 sd = nI r := by rw [hk1.2]; exact h22
  refine aw rfl rfl ?_
  refine aw_getfE rfl mg_121 rfl (congrArg Value.int hR1.2.2.2.1) ?_
  refine aw_nen rfl (fun c187 => ?_) (fun c187 => ?_)
  · exact aw_vret rfl rfl (q k1 hR1 (KM.rw hk1) (fun w => absurd w c187))
  · refine aw rfl rfl ?_
    refine aw_getf rfl mg_121 rfl ?_
    refine aw rfl rfl ?_
    refine aw_getfE rfl mg_121 rfl (congrArg Value.int h191) ?_
    refine aw rfl rfl ?_
    refine aw_ialdE rfl mg_130 rfl (by omega) (by decide) h221 ?_
    refine aw_c (v := nI 1) rfl (by decide) ?_
    refine aw_addn rfl ?_
    refine aw_iastU rfl mg_130 rfl (by omega) (by decide) (by decide) mu_130 ?_
    have hU : KRw sd r k1 (k1.1, va_up k1.2.1 22 (upd (k1.2.1 22) sd (nI (r + 1))), k1.2.2) := ⟨fun _ _ => rfl, fun n hn => vu_ot (by omega), fun i hi => ⟨upd_ne hi, rfl⟩, fun i _ => rfl, rfl⟩
    refine aw_vret rfl rfl (q _ (hR1.kp hU.kp rfl (fun _ _ _ => rfl)) ((KM.rw hk1).tr hU) (fun _ => ⟨upd_at, ?_, ?_⟩))
    · show k1.2.1 23 = _; rw [hk1.2]
    · show k1.2.1 24 = _; rw [hk1.2]
theorem l_mrT {Q : Option Value → am_H → Prop} {k : Mk} {tk W : Nat} {l : List Nat} {bad : Bool} (hs : sd < 2) (hr : r < 4) (htk : tk ≤ 400) (hz : ∀ i, i < tk → ¬ Y.1 i = 0) (hl : ∀ c ∈ l, 1 ≤ c ∧ c < 27) (h8 : l.length ≤ 8) (hR : RM Y k (bif bad then wr 6 (Y.2.1 tk) s else s)) (hb : bad = decide (¬ l.length = W)) (h19 : k.1 19 = nI sd) (h22 : k.2.1 22 sd = nI r) (h23 : k.2.1 23 sd = nI W) (q : ∀ k', RM Y k' (mu Y 4 (if rwX W l = true then wr 6 (Y.2.1 tk) s else s)) → KRw sd r k k' → ((mu Y 4 (if rwX W l = true then wr 6 (Y.2.1 tk) s else s)).2.1.1 = 0 → k'.2.1 22 sd = nI (r + 1) ∧ k'.2.1 23 sd = nI W ∧ ∀ i, i < l.length → k'.2.1 24 (32 * sd + 8 * r + i) = soL (l.getD i 0)) → Q none (mh g k' v pl br lo c ct pr pt cm bf bt)) : AW am_P 3 62 204 99 [some (.ref 121), some (.int (nI tk)), some (.long (Int64.ofNat (nr 27 l.reverse))), none, some (.int (nI l.length)), some (.long (Int64.ofNat 0)), none] [] (mh g k v pl br lo c ct pr pt cm bf bt) Q := by
  refine aw rfl rfl ?_
  refine aw_c (v := nI 1) rfl (by decide) ?_
  refine aw rfl rfl ?_
  refine aw_ist (ls' := [_, _, _, _, _, _, _]) rfl rfl ?_
  refine l_mrs (r := r) (sd := sd) hs hr htk hz l.reverse k bad _ _ (by rw [List.length_reverse]; exact mn1_s _) (fun c h => hl c (List.mem_reverse.mp h)) (by rw [List.length_reverse]; exact h8) hR h19 h22 (fun k1 X1 x1 o1 hR1 hk1 sq1 => ?_)
  have e1 : (bif (bad || !okR l.reverse) then wr 6 (Y.2.1 tk) s else s) = (if rwX W l = true then wr 6 (Y.2.1 tk) s else s) := by
    have e2 : (bad || !okR l.reverse) = rwX W l := by rw [hb]; unfold rwX okR; rw [List.all_reverse]
    rw [e2]
    cases rwX W l <;> rfl
  rw [e1] at hR1
  refine l_mrE (sd := sd) (r := r) hs hr hR1 (by rw [hk1.1 19 (by omega)]; exact h19) (by rw [hk1.2.1 22 (by decide)]; exact h22) (fun k2 hR2 hk2 ok2 => ?_)
  refine q k2 hR2 ((hk1.rw (by rw [List.length_reverse]; omega)).tr hk2) (fun w => ?_)
  obtain ⟨u1, u2, u3⟩ := ok2 w
  refine ⟨u1, by rw [u2, hk1.2.1 23 (by decide)]; exact h23, fun i hi => ?_⟩
  have h9 := sq1 i (by rw [List.length_reverse]; exact hi)
  rw [List.reverse_reverse] at h9
  rw [u3]; exact h9
end C1
