/-! ===== the reference's reader: tellKick ===== -/
def tbN (nm : Nat → List Nat) (x : List Nat) : Nat → Bool
  | 0 => false
  | i + 1 => tbN nm x i || (nm i == x)
/-- what a kick that is told leaves -/
def KKk (sd j : Nat) (k k' : Mk) : Prop := (∀ n, ¬ (n = 11 ∨ (13 ≤ n ∧ n ≤ 16) ∨ n = 20) → k'.1 n = k.1 n) ∧ (∀ n, n < 26 ∨ 31 < n → k'.2.1 n = k.2.1 n) ∧ (∀ i, ¬ i = sd → k'.2.1 26 i = k.2.1 26 i) ∧ (∀ i, ¬ i = 4 * sd + j → k'.2.1 27 i = k.2.1 27 i) ∧ (∀ n i, 28 ≤ n → n ≤ 31 → i < 6 * (4 * sd + j) ∨ 6 * (4 * sd + j) + 6 ≤ i → k'.2.1 n i = k.2.1 n i) ∧ (∀ n, ¬ n = 21 → k'.2.2 n = k.2.2 n)
theorem KOs.kk {sd j : Nat} {k k' : Mk} (h : KOs (6 * (4 * sd + j)) (6 * (4 * sd + j) + 6) k k') : KKk sd j k k' := ⟨fun n hn => h.1 n (by omega), fun n hn => h.2.1 n (by omega), fun i _ => by rw [h.2.1 26 (by omega)], fun i _ => by rw [h.2.1 27 (by omega)], h.2.2.1, fun n _ => by rw [h.2.2.2]⟩
theorem KM.kk {sd j : Nat} {k k' : Mk} (h : KM k k') : KKk sd j k k' := (KM.kos h).kk
theorem KKk.tr {sd j : Nat} {k k1 k2 : Mk} (h : KKk sd j k k1) (h1 : KKk sd j k1 k2) : KKk sd j k k2 := ⟨fun n hn => (h1.1 n hn).trans (h.1 n hn), fun n hn => (h1.2.1 n hn).trans (h.2.1 n hn), fun i hi => (h1.2.2.1 i hi).trans (h.2.2.1 i hi), fun i hi => (h1.2.2.2.1 i hi).trans (h.2.2.2.1 i hi), fun n i a b c => (h1.2.2.2.2.1 n i a b c).trans (h.2.2.2.2.1 n i a b c), fun n hn => (h1.2.2.2.2.2 n hn).trans (h.2.2.2.2.2 n hn)⟩
theorem KKk.kp {sd j : Nat} {k k' : Mk} (h : KKk sd j k k') : KP k k' := ⟨fun n hn => h.1 n (by omega), fun n hn => h.2.1 n (by omega), h.2.2.2.2.2⟩
section C1
variable {g : am_H} {k : Mk} {v pl : Nat → Int32} {br lo : Int32} {c ct pr pt cm bf bt : Nat → Int32}
variable {Y : Tk} {s : Ps}
variable {sd j : Nat}
theorem l_mkE {Q : Option Value → am_H → Prop} {k : Mk} {tk n9 : Nat} {x : Int32} (hs : sd < 2) (hj : j < 4) (hR : RM Y k s) (h19 : k.1 19 = nI sd) (h26 : k.2.1 26 sd = nI j) (h20 : k.1 20 = nI j) (htk : tk ≤ 400) (ht2 : s.2.1.1 = 0 → ∀ i, i < tk → ¬ Y.1 i = 0) {m : Nat} (hm : m < 2147483648) (hx : s.2.1.1 = 0 → x = nI m) (q : ∀ k', RM Y k' (mu Y 4 (if m = 6 then s else wr 5 (Y.2.1 tk) s)) → KKk sd j k k' → ((mu Y 4 (if m = 6 then s else wr 5 (Y.2.1 tk) s)).2.1.1 = 0 → k'.2.1 26 sd = nI (j + 1) ∧ k'.1 20 = nI (j + 1) ∧ k'.2.1 27 (4 * sd + j) = nI n9 ∧ (∀ n i, 28 ≤ n → n ≤ 31 → k'.2.1 n i = k.2.1 n i) ∧ k'.2.2 21 = vp_updL (k.2.2 21) j (k.2.2 8 tk)) → Q none (mh g k' v pl br lo c ct pr pt cm bf bt)) : AW am_P 4 87 210 147 [some (.ref 121), some (.int (nI (4 * sd + j))), some (.int (nI tk)), some (.int (nI n9)), some (.int x)] [] (mh g k v pl br lo c ct pr pt cm bf bt) Q := by
  have h13 := hR.2.2.2.1
  have hf8 := hR.2.2.1
  have hend : ∀ k1 s1, RM Y k1 s1 → KM k k1 → (if m = 6 then s else wr 5 (Y.2.1 tk) s) = s1 → AW am_P 4 87 210 167 [some (.ref 121), some (.int (nI (4 * sd + j))), some (.int (nI tk)), some (.int (nI n9)), some (.int x)] [] (mh g k1 v pl br lo c ct pr pt cm bf bt) Q := by
    intro k1 s1 hR1 hk1 e1
    rw [e1] at q
    obtain ⟨s2, hm2⟩ : ∃ p, mu Y 4 s1 = p := ⟨_, rfl⟩
    rw [hm2] at q
    refine aw rfl rfl ?_
    refine aw_c (v := nI 4) rfl (by decide) ?_
    refine aw_cv (d1 := 2) (L1 := 41) rfl rfl mg_121 rfl rfl (by decide) (by decide) (Nat.le_of_ble_eq_true rfl) (c_mmu hR1 hm2 (by decide) (fun k2 hR2 hk2 => ?_))
    have hU : KKk sd j k2 (k2.1, va_up k2.2.1 27 (upd (k2.2.1 27) (4 * sd + j) (nI n9)), k2.2.2) := ⟨fun _ _ => rfl, fun n hn => vu_ot (by omega), fun i _ => rfl, fun i hi => upd_ne hi, fun n i a b _ => congrFun (vu_ot (by omega)) i, fun _ _ => rfl⟩
    refine aw rfl rfl ?_
    refine aw_getf rfl mg_121 rfl ?_
    refine aw rfl rfl ?_
    refine aw rfl rfl ?_
    refine aw_iastU rfl mg_135 rfl (by omega) (by decide) (by decide) mu_135 ?_
    have hf82 := hR2.2.2.1
    refine aw rfl rfl ?_
    refine aw_getfE rfl mg_121 rfl (congrArg Value.int hR2.2.2.2.1) ?_
    refine aw_len rfl (fun c183 => ?_) (fun c183 => ?_)
    · refine aw rfl rfl ?_
      refine aw_getf rfl mg_121 rfl ?_
      refine aw rfl rfl ?_
      refine aw_getfE rfl mg_121 rfl (congrArg Value.int (show k2.1 20 = nI j by rw [hk2.1 20 (by omega), hk1.1 20 (by omega)]; exact h20)) ?_
      refine aw rfl rfl ?_
      refine aw_getf rfl mg_121 rfl ?_
      refine aw rfl rfl ?_
      refine aw_lald rfl mg_127 rfl (by omega) (by decide) ?_
      refine aw_lastU rfl mg_129 rfl (by omega) (by decide) (by decide) mu_129 ?_
      refine aw rfl rfl ?_
      refine aw rfl rfl ?_
      refine aw_getfE rfl mg_121 rfl (congrArg Value.int (show k2.1 20 = nI j by rw [hk2.1 20 (by omega), hk1.1 20 (by omega)]; exact h20)) ?_
      refine aw_c (v := nI 1) rfl (by decide) ?_
      refine aw_addn rfl ?_
      refine aw_putfU rfl mg_121 rfl rfl (by decide) mp_20 ?_
      refine aw rfl rfl ?_
      refine aw_getf rfl mg_121 rfl ?_
      refine aw rfl rfl ?_
      refine aw_getfE rfl mg_121 rfl (congrArg Value.int (show k2.1 19 = nI sd by rw [hk2.1 19 (by omega), hk1.1 19 (by omega)]; exact h19)) ?_
      refine aw rfl rfl ?_
      refine aw_ialdE rfl mg_134 rfl (by omega) (by decide) (show k2.2.1 26 sd = nI j by rw [hk2.2, hk1.2]; exact h26) ?_
      refine aw_c (v := nI 1) rfl (by decide) ?_
      refine aw_addn rfl ?_
      refine aw_iastU rfl mg_134 rfl (by omega) (by decide) (by decide) mu_134 ?_
      have hU2 : KKk sd j (k2.1, va_up k2.2.1 27 (upd (k2.2.1 27) (4 * sd + j) (nI n9)), k2.2.2) (va_up k2.1 20 (nI (j + 1)), va_up (va_up k2.2.1 27 (upd (k2.2.1 27) (4 * sd + j) (nI n9))) 26 (upd (k2.2.1 26) sd (nI (j + 1))), va_up k2.2.2 21 (vp_updL (k2.2.2 21) j (k2.2.2 8 tk))) := ⟨fun n hn => vu_ot (by omega), fun n hn => vu_ot (by omega), fun i hi => upd_ne hi, fun i _ => rfl, fun n i a b _ => congrFun (vu_ot (by omega)) i, fun n hn => vu_ot hn⟩
      refine aw_vret rfl rfl (q _ ((hR2.kp (KKk.kp (sd := sd) (j := j) (hU.tr hU2)) rfl (fun n h1 h2 => vu_ot (by omega)))) ((((KM.kk hk1).tr (KM.kk hk2)).tr hU).tr hU2) (fun _ => ⟨upd_at, rfl, upd_at, fun n i a b => ?_, ?_⟩))
      · show va_up (va_up k2.2.1 27 _) 26 _ n i = _
        rw [vu_ot (by omega), vu_ot (by omega), hk2.2, hk1.2]
      · show vp_updL (k2.2.2 21) j (k2.2.2 8 tk) = _
        rw [hk2.2, hk1.2]
    · exact aw_vret rfl rfl (q _ (hR2.kp (KKk.kp (sd := sd) (j := j) hU) rfl (fun _ _ _ => rfl)) (((KM.kk hk1).tr (KM.kk hk2)).tr hU) (fun w => absurd w (by omega)))
  refine aw rfl rfl ?_
  refine aw_getfE rfl mg_121 rfl (congrArg Value.int h13) ?_
  refine aw_nen rfl (fun c151 => ?_) (fun c151 => ?_)
  · exact hend k s hR KM.rf (by split; rfl; exact wr_f c151)
  · have hf : s.2.1.1 = 0 := c151
    have hx := hx hf
    subst hx
    refine aw rfl rfl ?_
    refine aw_c (v := nI 6) rfl (by decide) ?_
    refine aw_ieq rfl (fun c158 => ?_) (fun c158 => ?_)
    · exact hend k s hR KM.rf (if_pos ((nI_eq hm (by decide)).mp c158))
    · refine aw rfl rfl ?_
      refine aw_c (v := nI 5) rfl (by decide) ?_
      refine aw rfl rfl ?_
      refine aw_cv (d1 := 0) (L1 := 0) rfl rfl mg_121 rfl rfl (by decide) (by decide) (Nat.le_of_ble_eq_true rfl) (c_X11_wrong (t := tk) hR (by decide) htk ht2 (fun k1 hR1 hk1 => ?_))
      exact hend k1 _ hR1 hk1 (if_neg (fun w => c158 (by rw [w])))
end C1
