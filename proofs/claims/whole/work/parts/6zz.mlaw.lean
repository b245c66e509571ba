/-! ===== the reference's reader: tellLaw ===== -/
/-- what a law that is told leaves -/
def KTl (sd a bl lo : Nat) (k k' : Mk) : Prop := (∀ n, ¬ ((11 ≤ n ∧ n ≤ 16) ∨ n = 39 ∨ n = 45 ∨ n = 49) → k'.1 n = k.1 n) ∧ (∀ n, ¬ (n = 37 ∨ n = 38 ∨ (40 ≤ n ∧ n ≤ 44) ∨ n = 46 ∨ n = 47 ∨ n = 48) → k'.2.1 n = k.2.1 n) ∧ (∀ j, 40 ≤ j → j ≤ 44 → ∀ i, i < bl ∨ 130 * sd + 130 ≤ i → k'.2.1 j i = k.2.1 j i) ∧ (∀ i, i < lo ∨ 420 * sd + 420 ≤ i → k'.2.1 46 i = k.2.1 46 i ∧ k'.2.1 47 i = k.2.1 47 i) ∧ (∀ i, ¬ i = 3 * sd + a → k'.2.1 37 i = k.2.1 37 i ∧ k'.2.1 38 i = k.2.1 38 i) ∧ k'.2.2 = k.2.2
theorem KL.kt {sd a bl lo : Nat} {k k' : Mk} (h : KL sd bl lo k k') : KTl sd a bl lo k k' := ⟨h.1, fun n hn => h.2.1 n (by omega), h.2.2.1, h.2.2.2.1, fun i _ => ⟨by rw [h.2.1 37 (by omega)], by rw [h.2.1 38 (by omega)]⟩, h.2.2.2.2⟩
theorem KTl.tr {sd a bl lo bl1 lo1 : Nat} {k k1 k2 : Mk} (h : KTl sd a bl lo k k1) (h1 : KTl sd a bl1 lo1 k1 k2) (hb : bl ≤ bl1) (hl : lo ≤ lo1) : KTl sd a bl lo k k2 := ⟨fun n hn => (h1.1 n hn).trans (h.1 n hn), fun n hn => (h1.2.1 n hn).trans (h.2.1 n hn), fun j h4 h5 i hi => (h1.2.2.1 j h4 h5 i (by omega)).trans (h.2.2.1 j h4 h5 i hi), fun i hi => ⟨((h1.2.2.2.1 i (by omega)).1).trans ((h.2.2.2.1 i hi).1), ((h1.2.2.2.1 i (by omega)).2).trans ((h.2.2.2.1 i hi).2)⟩, fun i hi => ⟨((h1.2.2.2.2.1 i hi).1).trans ((h.2.2.2.2.1 i hi).1), ((h1.2.2.2.2.1 i hi).2).trans ((h.2.2.2.2.1 i hi).2)⟩, h1.2.2.2.2.2.trans h.2.2.2.2.2⟩
theorem KTl.kp {sd a bl lo : Nat} {k k' : Mk} (h : KTl sd a bl lo k k') : KP k k' := ⟨fun n hn => h.1 n (by omega), fun n hn => h.2.1 n (by omega), fun n _ => by rw [h.2.2.2.2.2]⟩
theorem KTl.sd {sd a bl lo : Nat} {k k' : Mk} (h : KTl sd a bl lo k k') (hs : sd < 2) (ha : a < 3) (hb : 130 * sd ≤ bl) (hl : 420 * sd ≤ lo) : SDf (1 - sd) k k' := by
  intro j h2 h4 i h5 h6
  have hs2 : sd = 0 ∨ sd = 1 := by omega
  by_cases e : j = 46 ∨ j = 47
  · have hw : wd9 j = 420 := by unfold wd9; rcases e with rfl | rfl <;> rfl
    rw [hw] at h5 h6
    have hi : i < lo ∨ 420 * sd + 420 ≤ i := by rcases hs2 with rfl | rfl <;> omega
    rcases e with rfl | rfl
    · exact (h.2.2.2.1 i hi).1
    · exact (h.2.2.2.1 i hi).2
  · by_cases e3 : j = 37 ∨ j = 38
    · have hw : wd9 j = 3 := by unfold wd9; rcases e3 with rfl | rfl <;> rfl
      rw [hw] at h5 h6
      have hi : ¬ i = 3 * sd + a := by rcases hs2 with rfl | rfl <;> omega
      rcases e3 with rfl | rfl
      · exact (h.2.2.2.2.1 i hi).1
      · exact (h.2.2.2.2.1 i hi).2
    · by_cases e2 : 40 ≤ j ∧ j ≤ 44
      · have hw : wd9 j = 130 := by unfold wd9; rw [if_neg (by omega), if_neg (by omega), if_neg (by omega), if_neg (by omega), if_pos e2]
        rw [hw] at h5 h6
        exact h.2.2.1 j e2.1 e2.2 i (by rcases hs2 with rfl | rfl <;> omega)
      · rw [h.2.1 j (by omega)]
section C1
variable {g : am_H} {k : Mk} {v pl : Nat → Int32} {br lo : Int32} {c ct pr pt cm bf bt : Nat → Int32}
variable {Y : Tk} {s : Ps}
variable {sd a fr : Nat}
theorem c_mgo {Q : Option Value → am_H → Prop} {s' : Ps} (hR : RM Y k s) (h : go Y s = s') (hne : s.2.1.1 = 0 → ¬ Y.1 s.1 = 0) (q : ∀ k', RM Y k' s' → KM k k' → Q none (mh g k' v pl br lo c ct pr pt cm bf bt)) : AC am_P 1 21 205 [.ref 121] (mh g k v pl br lo c ct pr pt cm bf bt) Q := by
  subst h
  exact c_X11_goesOn hR hne q
theorem c_mmu {Q : Option Value → am_H → Prop} {s' : Ps} {x : Nat} (hR : RM Y k s) (h : mu Y x s = s') (hx : 1 ≤ x ∧ x < 100) (q : ∀ k', RM Y k' s' → KM k k' → Q none (mh g k' v pl br lo c ct pr pt cm bf bt)) : AC am_P 2 41 206 [.ref 121, .int (nI x)] (mh g k v pl br lo c ct pr pt cm bf bt) Q := by
  subst h
  exact c_X11_must hR hx q
theorem c_mxp {Q : Option Value → am_H → Prop} {s' : Ps} {e : Ex} {cn : Nat} (hs : sd < 2) (hR : RM Y k s) (h : xp Y s = (e, s')) (h45 : k.1 45 = nI cn) (hok : s.2.1.1 = 0 → k.1 12 = nI 0 ∧ cn + 1 ≤ 420 * sd + s.1) (q : ∀ k', RM Y k' s' → KV sd cn k k' → (s'.2.1.1 = 0 → k'.1 45 = nI (cn + e.length) ∧ k'.1 12 = nI 0 ∧ ex_in (k'.2.1 46) (k'.2.1 47) cn e) → Q none (mh g k' v pl br lo c ct pr pt cm bf bt)) : AC am_P 3 61 213 [.ref 121] (mh g k v pl br lo c ct pr pt cm bf bt) Q := by
  refine c_X11_expression hs hR h45 hok (fun k1 b1 b2 b3 => ?_)
  rw [h] at b1 b3
  exact q k1 b1 b2 b3
theorem c_mtm {Q : Option Value → am_H → Prop} {s' : Ps} {e : Ex} {cn b : Nat} (hs : sd < 2) (hR : RM Y k s) (h : xp Y s = (e, s')) (h45 : k.1 45 = nI cn) (h39 : k.1 39 = nI b) (hb : b < 130 * sd + 130) (hok : s.2.1.1 = 0 → k.1 12 = nI 0 ∧ cn + 1 ≤ 420 * sd + s.1) (q : ∀ k', RM Y k' s' → KL sd b cn k k' → k'.1 39 = nI (b + 1) → (∀ j, j = 40 ∨ j = 41 ∨ j = 42 → k'.2.1 j = k.2.1 j) → (s'.2.1.1 = 0 → k'.1 45 = nI (cn + e.length) ∧ k'.1 12 = nI 0 ∧ ex_in (k'.2.1 46) (k'.2.1 47) cn e ∧ k'.2.1 43 b = nI cn ∧ k'.2.1 44 b = nI (cn + e.length)) → Q none (mh g k' v pl br lo c ct pr pt cm bf bt)) : AC am_P 4 83 217 [.ref 121] (mh g k v pl br lo c ct pr pt cm bf bt) Q := by
  refine c_X11_term hs hR h45 h39 hb hok (fun k1 b1 b2 b3 b4 b5 => ?_)
  rw [h] at b1 b5
  exact q k1 b1 b2 b3 b4 b5
theorem l_tlE {Q : Option Value → am_H → Prop} {b cn : Nat} {x3 : Option Value} (hs : sd < 2) (ha : a < 3) (hR : RM Y k s) (h19 : k.1 19 = nI sd) (h39 : k.1 39 = nI b) (h45 : k.1 45 = nI cn) (hb : b < 130 * sd + 130) (hlo : 420 * sd ≤ cn) (hok : (s.2.1.1 = 0 → k.1 12 = nI 0 ∧ cn + 1 ≤ 420 * sd + s.1)) (q : ∀ k', RM Y k' (mu Y 4 (xp Y s).2) → KTl sd a b cn k k' → ((mu Y 4 (xp Y s).2).2.1.1 = 0 → (∃ c' : Nat, lw_i2 cn c' k' b [((none : Option (Ex × Ex)), (xp Y s).1)] ∧ k'.1 39 = nI (b + List.length [((none : Option (Ex × Ex)), (xp Y s).1)]) ∧ (k'.1 45 = nI c' ∧ c' ≤ 420 * sd + (mu Y 4 (xp Y s).2).1) ∧ cn ≤ c') ∧ k'.1 12 = nI 0 ∧ k'.2.1 37 (3 * sd + a) = nI fr ∧ k'.2.1 38 (3 * sd + a) = nI (b + List.length [((none : Option (Ex × Ex)), (xp Y s).1)])) → Q none (mh g k' v pl br lo c ct pr pt cm bf bt)) : AW am_P 5 103 212 129 [some (.ref 121), some (.int (nI a)), some (.int (nI fr)), x3] [] (mh g k v pl br lo c ct pr pt cm bf bt) Q := by
  obtain ⟨⟨e1, s1⟩, hx1⟩ : ∃ p, xp Y s = p := ⟨_, rfl⟩
  obtain ⟨s2, hm2⟩ : ∃ p, mu Y 4 s1 = p := ⟨_, rfl⟩
  rw [hx1] at q
  dsimp only at q
  rw [hm2] at q
  have hs4 := hR.2.1
  refine aw rfl rfl ?_
  refine aw_getf rfl mg_121 rfl ?_
  refine aw rfl rfl ?_
  refine aw_getfE rfl mg_121 rfl (congrArg Value.int h39) ?_
  refine aw_c (v := nI 0) rfl (by decide) ?_
  refine aw_bastU rfl mg_147 rfl (by omega) (by decide) (by decide) mu_147 ?_
  refine aw rfl rfl ?_
  refine aw_cv (d1 := 4) (L1 := 83) rfl rfl mg_121 rfl rfl (by decide) (by decide) (Nat.le_of_ble_eq_true rfl) (c_mtm (k := (k.1, va_up k.2.1 40 (upd (k.2.1 40) b (nI 0)), k.2.2)) (cn := cn) hs (hR.kl9 (KL.u (sd := sd) (bl := b) (lo := cn) (by decide) ⟨Nat.le_refl _, hb⟩) (Or.inl rfl)) hx1 h45 h39 hb hok (fun k1 hR1 t1 t2 t3 ok1 => ?_))
  refine aw rfl rfl ?_
  refine aw_c (v := nI 4) rfl (by decide) ?_
  refine aw_cv (d1 := 2) (L1 := 41) rfl rfl mg_121 rfl rfl (by decide) (by decide) (Nat.le_of_ble_eq_true rfl) (c_mmu hR1 hm2 (by decide) (fun k2 hR2 hk2 => ?_))
  have hf82 := hR2.2.2.1
  refine aw rfl rfl ?_
  refine aw_getfE rfl mg_121 rfl (congrArg Value.int hR2.2.2.2.1) ?_
  refine aw_len rfl (fun c152 => ?_) (fun c152 => ?_)
  · refine aw rfl rfl ?_
    refine aw_getf rfl mg_121 rfl ?_
    refine aw_c (v := nI 3) rfl (by decide) ?_
    refine aw rfl rfl ?_
    refine aw_getfE rfl mg_121 rfl (congrArg Value.int (show k2.1 19 = nI sd by rw [hk2.1 19 (by omega), t1.1 19 (by omega)]; exact h19)) ?_
    refine aw_muln rfl ?_
    refine aw rfl rfl ?_
    refine aw_addn rfl ?_
    refine aw rfl rfl ?_
    refine aw_iastU rfl mg_145 rfl (by omega) (by decide) (by decide) mu_145 ?_
    refine aw rfl rfl ?_
    refine aw_getf rfl mg_121 rfl ?_
    refine aw_c (v := nI 3) rfl (by decide) ?_
    refine aw rfl rfl ?_
    refine aw_getfE rfl mg_121 rfl (congrArg Value.int (show k2.1 19 = nI sd by rw [hk2.1 19 (by omega), t1.1 19 (by omega)]; exact h19)) ?_
    refine aw_muln rfl ?_
    refine aw rfl rfl ?_
    refine aw_addn rfl ?_
    refine aw rfl rfl ?_
    refine aw_getfE rfl mg_121 rfl (congrArg Value.int (show k2.1 39 = nI (b + 1) by rw [hk2.1 39 (by omega)]; exact t2)) ?_
    refine aw_iastU rfl mg_146 rfl (by omega) (by decide) (by decide) mu_146 ?_
    have hu : s2.2.1.1 = 0 := by omega
    have m2 := mu_E hm2 hu
    have x1 := xp_E hx1 hs4 hR.1.2.1.1 m2.1
    obtain ⟨o1, o2, o3, o4, o5⟩ := ok1 m2.1
    have hk9 := hok x1.1
    have hb1 := hR1.2.1
    have e37 : k2.2.1 37 = k.2.1 37 := by rw [hk2.2, t1.2.1 37 (by omega)]; rfl
    have e38 : k2.2.1 38 = k.2.1 38 := by rw [hk2.2, t1.2.1 38 (by omega)]; rfl
    refine aw_vret rfl rfl (q _ (hR2.kp (KTl.kp (sd := sd) (a := a) (bl := b) (lo := cn) ⟨fun _ _ => rfl, fun n hn => ?_, fun j h4 h5 i _ => ?_, fun i _ => ⟨rfl, rfl⟩, fun i hi => ⟨?_, ?_⟩, rfl⟩) rfl (fun _ _ _ => rfl)) (((KL.kt (KL.u (sd := sd) (bl := b) (lo := cn) (j := 40) (by decide) ⟨Nat.le_refl _, hb⟩)).tr ((KL.kt t1).tr (KL.kt (KM.kl hk2)) (Nat.le_refl _) (Nat.le_refl _)) (Nat.le_refl _) (Nat.le_refl _)).tr ⟨fun _ _ => rfl, fun n hn => ?_, fun j h4 h5 i _ => ?_, fun i _ => ⟨rfl, rfl⟩, fun i hi => ⟨?_, ?_⟩, rfl⟩ (Nat.le_refl _) (Nat.le_refl _)) (fun _ => ⟨⟨cn + e1.length, ⟨?_, ⟨cn, Nat.le_refl _, ?_, ?_, ?_, ?_⟩, x1.2.1, trivial⟩, ?_, ⟨?_, ?_⟩, Nat.le_add_right _ _⟩, ?_, ?_, ?_⟩))
    · show va_up (va_up k2.2.1 37 _) 38 _ n = _
      rw [vu_ot (by omega), vu_ot (by omega)]
    · show va_up (va_up k2.2.1 37 _) 38 _ j i = _
      rw [vu_ot (by omega), vu_ot (by omega)]
    · exact upd_ne hi
    · exact upd_ne hi
    · show va_up (va_up k2.2.1 37 _) 38 _ n = _
      rw [vu_ot (by omega), vu_ot (by omega)]
    · show va_up (va_up k2.2.1 37 _) 38 _ j i = _
      rw [vu_ot (by omega), vu_ot (by omega)]
    · exact upd_ne hi
    · exact upd_ne hi
    · show k2.2.1 40 b = _
      rw [hk2.2, t3 40 (by omega)]
      exact upd_at
    · show k2.2.1 43 b = _
      rw [hk2.2]; exact o4
    · show k2.2.1 44 b = _
      rw [hk2.2]; exact o5
    · show ex_in (k2.2.1 46) (k2.2.1 47) cn e1
      rw [hk2.2]; exact o3
    · omega
    · show k2.1 39 = _
      rw [hk2.1 39 (by omega)]; exact t2
    · show k2.1 45 = _
      rw [hk2.1 45 (by omega)]; exact o1
    · omega
    · show k2.1 12 = _
      rw [hk2.1 12 (by omega)]; exact o2
    · exact upd_at
    · show upd (k2.2.1 38) _ (nI (b + 1)) _ = _
      exact upd_at
  · exact aw_vret rfl rfl (q k2 hR2 ((KL.kt (KL.u (sd := sd) (bl := b) (lo := cn) (j := 40) (by decide) ⟨Nat.le_refl _, hb⟩)).tr ((KL.kt t1).tr (KL.kt (KM.kl hk2)) (Nat.le_refl _) (Nat.le_refl _)) (Nat.le_refl _) (Nat.le_refl _)) (fun w => absurd w (by omega)))
end C1
