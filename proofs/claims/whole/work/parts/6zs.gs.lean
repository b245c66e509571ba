/-! ===== a street that was read is a street ===== -/
theorem gd_mem {α : Type} {l : List α} {d : α} {i : Nat} (h : i < l.length) : l.getD i d ∈ l := by rw [List.getD_eq_getElem?_getD, List.getElem?_eq_getElem h]; exact List.getElem_mem h
theorem exS_a {a b : Ex} (ha : exS a) (hb : exS b) : exS (a ++ b) := fun p hp => (List.mem_append.mp hp).elim (ha p) (hb p)
theorem exS_o {l : List Nat} (h : ∀ x ∈ l, x ≤ 5) : exS (opsE l) := fun p hp => by
  obtain ⟨x, hx, rfl⟩ := List.mem_map.mp hp
  exact ⟨h x hx, 0, by decide, rfl⟩
theorem yd_S {Y : Tk} (hY : YV Y) : ∀ (n : Nat) (w : Bool) (d : Nat) (l : List Nat) (e : Ex) (s : Ps), (∀ x ∈ l, x ≤ 5) → exS e → exS (yd Y n w d l e s).1 := by
  intro n
  induction n with
  | zero => intro w d l e s _ he; exact he
  | succ n ih =>
    intro w d l e s hl he
    have ht : ∀ P, ∀ x ∈ l.takeWhile P, x ≤ 5 := fun P x hx => hl x ((List.takeWhile_prefix P).mem hx)
    have hd : ∀ P, ∀ x ∈ l.dropWhile P, x ≤ 5 := fun P x hx => hl x ((List.dropWhile_suffix P).mem hx)
    rw [yd]
    split
    · exact he
    · cases w with
      | true =>
        show exS (if Y.1 s.1 = 6 then _ else _ : Ex × Ps).1
        split
        · split
          · exact he
          · exact ih _ _ _ _ _ (fun x hx => (List.mem_cons.mp hx).elim (fun e => by omega) (hl x)) he
        · split
          · exact ih _ _ _ _ _ hl (exS_a he (fun p hp => by rw [List.mem_singleton] at hp; subst hp; exact ⟨Nat.zero_le _, _, hY.2 _, rfl⟩))
          · split
            · have hk := hY.1 s.1
              exact ih _ _ _ _ _ hl (exS_a he (fun p hp => by rw [List.mem_singleton] at hp; subst hp; exact ⟨by show 1 ≤ 5; decide, _, by unfold kOK sgK at hk; omega, rfl⟩))
            · exact he
      | false =>
        show exS (if Y.1 s.1 = 7 ∧ 0 < d then _ else _ : Ex × Ps).1
        split
        · exact ih _ _ _ _ _ (fun x hx => hd _ x (List.mem_of_mem_tail hx)) (exS_a he (exS_o (ht _)))
        · split
          · exact ih _ _ _ _ _ (fun x hx => (List.mem_cons.mp hx).elim (fun e => by rw [e]; exact opK_in.2) (hd _ x)) (exS_a he (exS_o (ht _)))
          · split
            · exact he
            · exact exS_a he (exS_o (ht _))
theorem xp_S {Y : Tk} (hY : YV Y) {s : Ps} : exS (xp Y s).1 := yd_S hY _ _ _ _ _ _ (fun x hx => by simp at hx) (fun p hp => by simp at hp)
theorem lwL_V {Y : Tk} (hY : YV Y) : ∀ (n : Nat) (s : Ps), lwV (lwL Y n s).1 := by
  have hone : ∀ s : Ps, lwV [((none : Option (Ex × Ex)), (xp Y s).1)] := fun s b hb => by
    rw [List.mem_singleton] at hb
    subst hb
    exact ⟨xp_S hY, fun p hp => by cases hp⟩
  intro n
  induction n with
  | zero =>
    intro s
    rw [lwL]
    split
    · exact fun b hb => by simp at hb
    · exact hone s
  | succ n ih =>
    intro s
    rw [lwL]
    split
    · intro b hb
      rcases List.mem_cons.mp hb with rfl | hb
      · exact ⟨xp_S hY, fun p hp => by cases hp; exact ⟨xp_S hY, xp_S hY⟩⟩
      · exact ih _ b hb
    · exact hone s
theorem tl_V {Y : Tk} (hY : YV Y) {D : Dt} {s : Ps} (h : ∀ i, lwV (D.2.2.2.2.2 i)) : ∀ i, lwV ((tl Y D s).1.2.2.2.2.2 i) := by
  show ∀ i, lwV ((tl1 Y D s).1.2.2.2.2.2 i)
  unfold tl1
  split
  · split <;> exact h
  · split
    · split <;> exact h
    · split
      · intro i
        show lwV (va_up D.2.2.2.2.2 _ (lwA Y s).1 i)
        unfold va_up
        split
        · exact lwL_V hY _ _
        · exact h i
      · repeat' split
        all_goals exact h
theorem tls_V {Y : Tk} (hY : YV Y) : ∀ (n : Nat) (D : Dt) (s : Ps), (∀ i, lwV (D.2.2.2.2.2 i)) → ∀ i, lwV ((tls Y n D s).1.2.2.2.2.2 i) := by
  intro n
  induction n with
  | zero => intro D s h; exact h
  | succ n ih =>
    intro D s h
    rw [tls]
    split
    · exact ih _ _ (tl_V hY h)
    · exact h
theorem rd_V {Y : Tk} (hY : YV Y) : ∀ i, lwV ((rd Y).1.2.2.2.2.2 i) := tls_V hY _ _ _ (fun i b hb => by simp [D0] at hb)
theorem soL_z {c : Nat} (h : ¬ soL c = -1) : ∃ z : Nat, z ≤ 6 ∧ soL c = nI z := by
  unfold soL at *
  split at h
  · exact ⟨0, by decide, by simp [*]⟩
  · rename_i h1; rw [if_neg h1]
    split at h
    · rename_i h2; rw [if_pos h2]; exact ⟨1, by decide, rfl⟩
    · rename_i h2; rw [if_neg h2]
      split at h
      · rename_i h2; rw [if_pos h2]; exact ⟨2, by decide, rfl⟩
      · rename_i h2; rw [if_neg h2]
        split at h
        · rename_i h2; rw [if_pos h2]; exact ⟨3, by decide, rfl⟩
        · rename_i h2; rw [if_neg h2]
          split at h
          · rename_i h2; rw [if_pos h2]; exact ⟨4, by decide, rfl⟩
          · rename_i h2; rw [if_neg h2]
            split at h
            · rename_i h2; rw [if_pos h2]; exact ⟨5, by decide, rfl⟩
            · rename_i h2; rw [if_neg h2]
              split at h
              · rename_i h2; rw [if_pos h2]; exact ⟨6, by decide, rfl⟩
              · exact absurd rfl h
theorem sm_sh (f : Nat → Nat) : ∀ n, sm f (n + 1) = f 0 + sm (fun i => f (i + 1)) n := by
  intro n
  induction n with
  | zero => rw [sm, sm, sm]; omega
  | succ n ih => rw [sm, ih, sm]; omega
theorem sm_cg {f g : Nat → Nat} : ∀ n, (∀ i, i < n → f i = g i) → sm f n = sm g n := by
  intro n
  induction n with
  | zero => intro _; rfl
  | succ n ih => intro h; rw [sm, sm, ih (fun i hi => h i (by omega)), h n (by omega)]
theorem osR_at {T : Sd} : ∀ (os : List OT) (b : Nat), osR T b os → ∀ i, i < os.length → otR T (b + i) (os.getD i (0, 0, false, 0, 0)) := by
  intro os
  induction os with
  | nil => intro b _ i hi; exact absurd hi (Nat.not_lt_zero _)
  | cons o r ih =>
    intro b h i hi
    cases i with
    | zero => exact h.1
    | succ i => have h9 := ih (b + 1) h.2 i (by rw [List.length_cons] at hi; omega); rw [show b + 1 + i = b + (i + 1) by omega] at h9; exact h9
theorem osR_sm {T : Sd} : ∀ (os : List OT) (b : Nat), osR T b os → (∀ o ∈ os, otG o) → sm (fun o => sx T (b + o)) os.length = osm os := by
  intro os
  induction os with
  | nil => intro b _ _; rfl
  | cons o r ih =>
    intro b h hg
    have h1 := (hg o (List.mem_cons_self ..)).1
    rw [List.length_cons, sm_sh, osm, ← ih (b + 1) h.2 (fun z hz => hg z (List.mem_cons_of_mem _ hz))]
    have e1 : sx T (b + 0) = o.1 := by
      unfold sx
      rw [Nat.add_zero, h.1.1, nI_clamp (by omega)]
    rw [e1]
    congr 1
    exact sm_cg _ (fun i _ => by rw [show b + (i + 1) = b + 1 + i by omega])
theorem osm_pos : ∀ os : List OT, osm os = 6 → 1 ≤ os.length
  | [], h => absurd h (by decide)
  | _ :: _, _ => Nat.succ_le_succ (Nat.zero_le _)
theorem lie_of {T : Sd} {a e f : Nat} (h0 : T.1 0 ≤ 8) (h1 : T.1 1 ≤ 4) (h2 : T.1 2 ≤ 3) (ha : a < T.1 0) (he : e < T.1 1) (hf : f < T.1 2) (h4 : ¬ T.2 0 (e * 8 + a) = nI 4) (h5 : ¬ T.2 0 (e * 8 + a) = nI 5) : lieOK T ((e * 8 + a) * 3 + f) := by
  have d1 : ((e * 8 + a) * 3 + f) / 3 = e * 8 + a := by omega
  unfold lieOK
  rw [d1, show (e * 8 + a) % 8 = a by omega, show (e * 8 + a) / 8 = e by omega, show ((e * 8 + a) * 3 + f) % 3 = f by omega]
  exact ⟨by omega, ha, he, hf, h4, h5⟩
theorem CDt.gs {T : Sd} {u : Ua} {K : Ck} {C : List Int32} {D : Dt} (h : CDt T u K C D True) (hG : gD D) (hW : whB D = true) : GS T := by
  obtain ⟨dA, dB, dW, dR⟩ := h
  obtain ⟨p1, p2, p3, p4, p5, p6⟩ := dA
  obtain ⟨g1, g2, g3, g4, g5, g6⟩ := hG
  unfold whB at hW
  rw [Bool.and_eq_true, Bool.and_eq_true, decide_eq_true_iff] at hW
  obtain ⟨⟨⟨w1, w2⟩, w3⟩, w4⟩ := hW
  have s3 := (sp_iff dR p1 D.2.2.2.1).mpr w3
  have s4 := (sp_iff dR p1 D.2.2.2.2.1).mpr w4
  have hsq := dR.sq
  obtain ⟨r1, r2, r3, r4, r5⟩ := dR
  obtain ⟨b1, b2, b3, b4⟩ := dB
  refine ⟨⟨by omega, r3⟩, ⟨by omega, by omega⟩, ⟨by omega, by omega⟩, ⟨by omega, by omega⟩, by omega, ⟨by omega, by omega⟩, by omega, fun s hs => ⟨fun w => ?_, fun w => (hsq s hs).mpr w⟩, fun j hj => ?_, b3, ?_, ?_⟩
  · obtain ⟨c1, c2, c3⟩ := (r5 trivial).1 (s / 8) (by omega)
    have c4 := c3 (s % 8) w.1
    rw [show s / 8 * 8 + s % 8 = s by omega] at c4
    obtain ⟨zz, z1, z2⟩ := soL_z (okR_at c2 (show s % 8 < _ by omega))
    exact ⟨zz, z1, c4.trans z2⟩
  · obtain ⟨c1, c2, c3, c4, c5, c6⟩ := b4 j (by omega)
    have hm : D.2.1.getD j ([], []) ∈ D.2.1 := by rw [List.getD_eq_getElem?_getD, List.getElem?_eq_getElem (by omega)]; exact List.getElem_mem _
    obtain ⟨o1, o2⟩ := g6 _ hm
    have hoc : oc T j = (D.2.1.getD j ([], [])).2.length := by unfold oc; rw [c4, nI_clamp (by omega)]
    have hp := osm_pos _ o1
    rw [hoc]
    refine ⟨c4, hp, c5, by rw [osR_sm _ _ c6 o2]; exact o1, fun o ho => ?_⟩
    obtain ⟨e1, e2, e3, e4⟩ := osR_at _ _ c6 o ho
    have hmo := o2 ((D.2.1.getD j ([], [])).2.getD o (0, 0, false, 0, 0)) (gd_mem ho)
    have hsx : sx T (6 * j + o) = ((D.2.1.getD j ([], [])).2.getD o (0, 0, false, 0, 0)).1 := by unfold sx; rw [e1, nI_clamp (by have := hmo.1.2; omega)]
    rw [hsx]
    exact ⟨e1, hmo.1.1, hmo.1.2, _, hmo.2.2.2, e4⟩
  · exact ⟨_, _, _, p5 0 (by decide), p5 1 (by decide), p5 2 (by decide), s3.1, s3.2.1, s3.2.2.1, lie_of r3 (by omega) (by omega) s3.1 s3.2.1 s3.2.2.1 s3.2.2.2.1 s3.2.2.2.2⟩
  · exact ⟨_, _, _, p6 0 (by decide), p6 1 (by decide), p6 2 (by decide), s4.1, s4.2.1, s4.2.2.1, lie_of r3 (by omega) (by omega) s4.1 s4.2.1 s4.2.2.1 s4.2.2.2.1 s4.2.2.2.2⟩

