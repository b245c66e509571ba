/-! ===== the reference's reader: tellLaw, tellOutcome ===== -/
theorem lwL_cnt {Y : Tk} (hk : ∀ i, kOK (Y.1 i)) : ∀ (n : Nat) (s : Ps), s.1 ≤ 400 → (lwL Y n s).2.2.1.1 = 0 → 4 * (lwL Y n s).1.length + s.1 ≤ (lwL Y n s).2.1 + 3 ∧ (lwL Y n s).2.1 ≤ 400 := by
  have hm : ∀ k (s : Ps), s.1 ≤ 400 → (mu Y k s).1 ≤ 400 := fun k s h => by
    unfold mu
    split
    · unfold fl; split <;> exact h
    · exact go_le h
  intro n
  induction n with
  | zero =>
    intro s hs h0
    rw [lwL] at h0 ⊢
    split at h0
    · exact absurd h0 (fl_0 (by decide))
    · rename_i hn
      rw [if_neg hn]
      have h9 := xp_ok (xp_0 h0) hs hk h0
      exact ⟨by show 4 * 1 + s.1 ≤ (xp Y s).2.1 + 3; omega, h9.2.2.1⟩
  | succ n ih =>
    intro s hs h0
    rw [lwL] at h0 ⊢
    split at h0
    · rename_i hn
      rw [if_pos hn]
      have hB : (lwB Y s).2.2.1.1 = 0 := Decidable.of_not_not (fun w => by
        have h0 : (lwL Y n (lwB Y s).2).2.2.1.1 = 0 := h0
        rw [lwL_f w] at h0
        exact w h0)
      have hB0 := hB
      unfold lwB at hB
      have m3 := mu_1 hB
      have x3 := xp_0 m3.1
      have m2 := mu_1 x3
      have x2 := xp_0 m2.1
      have m1 := mu_1 x2
      have x1 := xp_0 m1.1
      have l1 := go_le (Y := Y) hs
      have l2 := xp_ok x1 l1 hk m1.1
      have l3 := hm 13 _ l2.2.2.1
      have l4 := xp_ok x2 l3 hk m2.1
      have l5 := hm 34 _ l4.2.2.1
      have l6 := xp_ok x3 l5 hk m3.1
      have l7 := hm 35 _ l6.2.2.1
      have g1 := (go_1 x1).2.2
      have e1 : (go Y s).1 = s.1 + 1 := by rw [g1]
      have e2 : (mu Y 13 (xp Y (go Y s)).2).1 = (xp Y (go Y s)).2.1 + 1 := by rw [m1.2.2.2]
      have e3 : (mu Y 34 (xp Y (mu Y 13 (xp Y (go Y s)).2)).2).1 = (xp Y (mu Y 13 (xp Y (go Y s)).2)).2.1 + 1 := by rw [m2.2.2.2]
      have e4 : (lwB Y s).2.1 = (xp Y (mu Y 34 (xp Y (mu Y 13 (xp Y (go Y s)).2)).2)).2.1 + 1 := by show (mu Y 35 _).1 = _; rw [m3.2.2.2]
      obtain ⟨i1, i2⟩ := ih (lwB Y s).2 l7 h0
      refine ⟨?_, i2⟩
      show 4 * ((lwL Y n (lwB Y s).2).1.length + 1) + s.1 ≤ (lwL Y n (lwB Y s).2).2.1 + 3
      omega
    · rename_i hn
      rw [if_neg hn]
      have h9 := xp_ok (xp_0 h0) hs hk h0
      exact ⟨by show 4 * 1 + s.1 ≤ (xp Y s).2.1 + 3; omega, h9.2.2.1⟩
section C1
variable {g : am_H} {k : Mk} {v pl : Nat → Int32} {br lo : Int32} {c ct pr pt cm bf bt : Nat → Int32}
variable {Y : Tk} {s : Ps}
variable {sd a : Nat}
theorem c_X11_tellLaw {Q : Option Value → am_H → Prop} {b cn : Nat} (hs : sd < 2) (ha : a < 3) (hR : RM Y k s) (h19 : k.1 19 = nI sd) (h39 : k.1 39 = nI b) (h45 : k.1 45 = nI cn) (hb : 130 * sd ≤ b ∧ b + 1 ≤ 130 * sd + 130) (hlo : 420 * sd ≤ cn) (hok : s.2.1.1 = 0 → k.1 12 = nI 0 ∧ cn + 1 ≤ 420 * sd + s.1 ∧ 4 * b + 1 ≤ 520 * sd + s.1) (q : ∀ k', RM Y k' (mu Y 4 (lwL Y 4 (mu Y 5 s)).2) → KTl sd a b cn k k' → ((mu Y 4 (lwL Y 4 (mu Y 5 s)).2).2.1.1 = 0 → (∃ c' : Nat, lw_i2 cn c' k' b (lwL Y 4 (mu Y 5 s)).1 ∧ k'.1 39 = nI (b + (lwL Y 4 (mu Y 5 s)).1.length) ∧ (k'.1 45 = nI c' ∧ c' ≤ 420 * sd + (mu Y 4 (lwL Y 4 (mu Y 5 s)).2).1) ∧ cn ≤ c') ∧ 4 * (b + (lwL Y 4 (mu Y 5 s)).1.length) ≤ 520 * sd + (mu Y 4 (lwL Y 4 (mu Y 5 s)).2).1 ∧ k'.1 12 = nI 0 ∧ k'.2.1 37 (3 * sd + a) = nI b ∧ k'.2.1 38 (3 * sd + a) = nI (b + (lwL Y 4 (mu Y 5 s)).1.length)) → Q none (mh g k' v pl br lo c ct pr pt cm bf bt)) : AC am_P 5 103 212 [.ref 121, .int (nI a)] (mh g k v pl br lo c ct pr pt cm bf bt) Q := by
  refine AC.of (ls := [_, _, _, _]) rfl ?_
  obtain ⟨s1, hm1⟩ : ∃ p, mu Y 5 s = p := ⟨_, rfl⟩
  rw [hm1] at q
  have hkk := hR.1.2.1.1
  refine aw rfl rfl ?_
  refine aw_c (v := nI 5) rfl (by decide) ?_
  refine aw_cv (d1 := 2) (L1 := 41) rfl rfl mg_121 rfl rfl (by decide) (by decide) (Nat.le_of_ble_eq_true rfl) (c_mmu hR hm1 (by decide) (fun k1 hR1 hk1 => ?_))
  refine aw rfl rfl ?_
  refine aw_getfE rfl mg_121 rfl (congrArg Value.int (show k1.1 39 = nI b by rw [hk1.1 39 (by omega)]; exact h39)) ?_
  refine aw_ist (ls' := [_, _, _, _]) rfl rfl ?_
  refine aw_c (v := nI 0) rfl (by decide) ?_
  refine aw_ist (ls' := [_, _, _, _]) rfl rfl ?_
  refine l_tlaw (fr := b) hs ha 4 s1 k1 b cn (Nat.le_refl _) hR1 (by rw [hk1.1 19 (by omega)]; exact h19) (by rw [hk1.1 39 (by omega)]; exact h39) (by rw [hk1.1 45 (by omega)]; exact h45) hb hlo (fun w => ?_) (fun k2 r1 r2 r3 => q k2 r1 ((KL.kt (KM.kl hk1)).tr r2 (Nat.le_refl _) (Nat.le_refl _)) (fun w => ?_))
  · have m1 := mu_E hm1 w
    have h9 := hok m1.1
    exact ⟨⟨by rw [hk1.1 12 (by omega)]; exact h9.1, by omega⟩, by omega⟩
  · obtain ⟨u0, u4, u5, u6⟩ := r3 w
    have m4 := mu_1 w
    have h1f : s1.2.1.1 = 0 := Decidable.of_not_not (fun z9 => by
      have m41 : (lwL Y 4 s1).2.2.1.1 = 0 := m4.1
      rw [lwL_f z9] at m41
      exact z9 m41)
    have m1 := mu_E hm1 h1f
    have h9 := hok m1.1
    have hc := lwL_cnt hkk 4 s1 hR1.2.1 m4.1
    have e5 : (mu Y 4 (lwL Y 4 s1).2).1 = (lwL Y 4 s1).2.1 + 1 := by rw [m4.2.2.2]
    exact ⟨u0, by omega, u4, u5, u6⟩
end C1
